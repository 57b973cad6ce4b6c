theorem d_Reader_isNew_0 : decode b_Reader_isNew 0 = .ok (.iconst 0, 1) := by decide +kernel
theorem d_Reader_isNew_1 : decode b_Reader_isNew 1 = .ok (.istore_n 2, 1) := by decide +kernel
theorem d_Reader_isNew_2 : decode b_Reader_isNew 2 = .ok (.iload_n 2, 1) := by decide +kernel
theorem d_Reader_isNew_3 : decode b_Reader_isNew 3 = .ok (.aload_n 0, 1) := by decide +kernel
theorem d_Reader_isNew_4 : decode b_Reader_isNew 4 = .ok (.getfield 84, 3) := by decide +kernel
theorem d_Reader_isNew_7 : decode b_Reader_isNew 7 = .ok (.if_icmp .ge 28, 3) := by decide +kernel
theorem d_Reader_isNew_10 : decode b_Reader_isNew 10 = .ok (.aload_n 0, 1) := by decide +kernel
theorem d_Reader_isNew_11 : decode b_Reader_isNew 11 = .ok (.getfield 30, 3) := by decide +kernel
theorem d_Reader_isNew_14 : decode b_Reader_isNew 14 = .ok (.aload_n 0, 1) := by decide +kernel
theorem d_Reader_isNew_15 : decode b_Reader_isNew 15 = .ok (.getfield 21, 3) := by decide +kernel
theorem d_Reader_isNew_18 : decode b_Reader_isNew 18 = .ok (.iload_n 2, 1) := by decide +kernel
theorem d_Reader_isNew_19 : decode b_Reader_isNew 19 = .ok (.iaload, 1) := by decide +kernel
theorem d_Reader_isNew_20 : decode b_Reader_isNew 20 = .ok (.iload_n 1, 1) := by decide +kernel
theorem d_Reader_isNew_21 : decode b_Reader_isNew 21 = .ok (.invokevirtual 164, 3) := by decide +kernel
theorem d_Reader_isNew_24 : decode b_Reader_isNew 24 = .ok (.ifCond .eq 5, 3) := by decide +kernel
theorem d_Reader_isNew_27 : decode b_Reader_isNew 27 = .ok (.iconst 0, 1) := by decide +kernel
theorem d_Reader_isNew_28 : decode b_Reader_isNew 28 = .ok (.ireturn, 1) := by decide +kernel
theorem d_Reader_isNew_29 : decode b_Reader_isNew 29 = .ok (.iinc 2 1, 3) := by decide +kernel
theorem d_Reader_isNew_32 : decode b_Reader_isNew 32 = .ok (.goto (-30), 3) := by decide +kernel
theorem d_Reader_isNew_35 : decode b_Reader_isNew 35 = .ok (.aload_n 0, 1) := by decide +kernel
theorem d_Reader_isNew_36 : decode b_Reader_isNew 36 = .ok (.getfield 34, 3) := by decide +kernel
theorem d_Reader_isNew_39 : decode b_Reader_isNew 39 = .ok (.iload_n 1, 1) := by decide +kernel
theorem d_Reader_isNew_40 : decode b_Reader_isNew 40 = .ok (.invokevirtual 168, 3) := by decide +kernel
theorem d_Reader_isNew_43 : decode b_Reader_isNew 43 = .ok (.ifCond .ge 7, 3) := by decide +kernel
theorem d_Reader_isNew_46 : decode b_Reader_isNew 46 = .ok (.iconst 1, 1) := by decide +kernel
theorem d_Reader_isNew_47 : decode b_Reader_isNew 47 = .ok (.goto 4, 3) := by decide +kernel
theorem d_Reader_isNew_50 : decode b_Reader_isNew 50 = .ok (.iconst 0, 1) := by decide +kernel
theorem d_Reader_isNew_51 : decode b_Reader_isNew 51 = .ok (.ireturn, 1) := by decide +kernel
theorem lk_Reader_168 : Cond.methodLink "TurtleWorld$Reader" 168 ⟨"TurtleWorld$Procedures", "find", "(I)I"⟩ ∈ tw_T := tw_i4 128 (by decide +kernel) (by decide +kernel)
theorem hd_Procedures_find : y_Procedures_find.cls ≠ "java/lang/invoke/MethodHandle" ∧ y_Procedures_find.cls ≠ "java/lang/invoke/VarHandle" ∧ (parseMethodDescriptor y_Procedures_find.desc).map (fun d => d.parameters.length) = some 1 := by decide +kernel
theorem d_Heap_movedWord_0 : decode b_Heap_movedWord 0 = .ok (.aload_n 0, 1) := by decide +kernel
theorem d_Heap_movedWord_1 : decode b_Heap_movedWord 1 = .ok (.getfield 11, 3) := by decide +kernel
theorem d_Heap_movedWord_4 : decode b_Heap_movedWord 4 = .ok (.iload_n 1, 1) := by decide +kernel
theorem d_Heap_movedWord_5 : decode b_Heap_movedWord 5 = .ok (.iconst 1, 1) := by decide +kernel
theorem d_Heap_movedWord_6 : decode b_Heap_movedWord 6 = .ok (.isub, 1) := by decide +kernel
theorem d_Heap_movedWord_7 : decode b_Heap_movedWord 7 = .ok (.iaload, 1) := by decide +kernel
theorem d_Heap_movedWord_8 : decode b_Heap_movedWord 8 = .ok (.istore_n 2, 1) := by decide +kernel
theorem d_Heap_movedWord_9 : decode b_Heap_movedWord 9 = .ok (.iload_n 2, 1) := by decide +kernel
theorem d_Heap_movedWord_10 : decode b_Heap_movedWord 10 = .ok (.ifCond .ge 10, 3) := by decide +kernel
theorem d_Heap_movedWord_13 : decode b_Heap_movedWord 13 = .ok (.iload_n 2, 1) := by decide +kernel
theorem d_Heap_movedWord_14 : decode b_Heap_movedWord 14 = .ok (.ineg, 1) := by decide +kernel
theorem d_Heap_movedWord_15 : decode b_Heap_movedWord 15 = .ok (.iconst 2, 1) := by decide +kernel
theorem d_Heap_movedWord_16 : decode b_Heap_movedWord 16 = .ok (.ishl, 1) := by decide +kernel
theorem d_Heap_movedWord_17 : decode b_Heap_movedWord 17 = .ok (.iconst 3, 1) := by decide +kernel
theorem d_Heap_movedWord_18 : decode b_Heap_movedWord 18 = .ok (.ior, 1) := by decide +kernel
theorem d_Heap_movedWord_19 : decode b_Heap_movedWord 19 = .ok (.ireturn, 1) := by decide +kernel
theorem d_Heap_movedWord_20 : decode b_Heap_movedWord 20 = .ok (.aload_n 0, 1) := by decide +kernel
theorem d_Heap_movedWord_21 : decode b_Heap_movedWord 21 = .ok (.iload_n 1, 1) := by decide +kernel
theorem d_Heap_movedWord_22 : decode b_Heap_movedWord 22 = .ok (.iconst 2, 1) := by decide +kernel
theorem d_Heap_movedWord_23 : decode b_Heap_movedWord 23 = .ok (.ishl, 1) := by decide +kernel
theorem d_Heap_movedWord_24 : decode b_Heap_movedWord 24 = .ok (.iconst 3, 1) := by decide +kernel
theorem d_Heap_movedWord_25 : decode b_Heap_movedWord 25 = .ok (.ior, 1) := by decide +kernel
theorem d_Heap_movedWord_26 : decode b_Heap_movedWord 26 = .ok (.invokevirtual 119, 3) := by decide +kernel
theorem d_Heap_movedWord_29 : decode b_Heap_movedWord 29 = .ok (.istore_n 3, 1) := by decide +kernel
theorem d_Heap_movedWord_30 : decode b_Heap_movedWord 30 = .ok (.iload_n 3, 1) := by decide +kernel
theorem d_Heap_movedWord_31 : decode b_Heap_movedWord 31 = .ok (.iconst 1, 1) := by decide +kernel
theorem d_Heap_movedWord_32 : decode b_Heap_movedWord 32 = .ok (.iadd, 1) := by decide +kernel
theorem d_Heap_movedWord_33 : decode b_Heap_movedWord 33 = .ok (.aload_n 0, 1) := by decide +kernel
theorem d_Heap_movedWord_34 : decode b_Heap_movedWord 34 = .ok (.getfield 11, 3) := by decide +kernel
theorem d_Heap_movedWord_37 : decode b_Heap_movedWord 37 = .ok (.arraylength, 1) := by decide +kernel
theorem d_Heap_movedWord_38 : decode b_Heap_movedWord 38 = .ok (.iload_n 1, 1) := by decide +kernel
theorem d_Heap_movedWord_39 : decode b_Heap_movedWord 39 = .ok (.isub, 1) := by decide +kernel
theorem d_Heap_movedWord_40 : decode b_Heap_movedWord 40 = .ok (.if_icmp .gt 13, 3) := by decide +kernel
theorem d_Heap_movedWord_43 : decode b_Heap_movedWord 43 = .ok (.aload_n 0, 1) := by decide +kernel
theorem d_Heap_movedWord_44 : decode b_Heap_movedWord 44 = .ok (.iload_n 3, 1) := by decide +kernel
theorem d_Heap_movedWord_45 : decode b_Heap_movedWord 45 = .ok (.iconst 2, 1) := by decide +kernel
theorem d_Heap_movedWord_46 : decode b_Heap_movedWord 46 = .ok (.iadd, 1) := by decide +kernel
theorem d_Heap_movedWord_47 : decode b_Heap_movedWord 47 = .ok (.invokevirtual 165, 3) := by decide +kernel
theorem d_Heap_movedWord_50 : decode b_Heap_movedWord 50 = .ok (.ifCond .ne 8, 3) := by decide +kernel
theorem d_Heap_movedWord_53 : decode b_Heap_movedWord 53 = .ok (.aload_n 0, 1) := by decide +kernel
theorem d_Heap_movedWord_54 : decode b_Heap_movedWord 54 = .ok (.getfield 41, 3) := by decide +kernel
theorem d_Heap_movedWord_57 : decode b_Heap_movedWord 57 = .ok (.ireturn, 1) := by decide +kernel
theorem d_Heap_movedWord_58 : decode b_Heap_movedWord 58 = .ok (.aload_n 0, 1) := by decide +kernel
theorem d_Heap_movedWord_59 : decode b_Heap_movedWord 59 = .ok (.getfield 153, 3) := by decide +kernel
theorem d_Heap_movedWord_62 : decode b_Heap_movedWord 62 = .ok (.iconst 1, 1) := by decide +kernel
theorem d_Heap_movedWord_63 : decode b_Heap_movedWord 63 = .ok (.iadd, 1) := by decide +kernel
theorem d_Heap_movedWord_64 : decode b_Heap_movedWord 64 = .ok (.istore 4, 2) := by decide +kernel
theorem d_Heap_movedWord_66 : decode b_Heap_movedWord 66 = .ok (.aload_n 0, 1) := by decide +kernel
theorem d_Heap_movedWord_67 : decode b_Heap_movedWord 67 = .ok (.getfield 11, 3) := by decide +kernel
theorem d_Heap_movedWord_70 : decode b_Heap_movedWord 70 = .ok (.iload_n 1, 1) := by decide +kernel
theorem d_Heap_movedWord_71 : decode b_Heap_movedWord 71 = .ok (.aload_n 0, 1) := by decide +kernel
theorem d_Heap_movedWord_72 : decode b_Heap_movedWord 72 = .ok (.getfield 15, 3) := by decide +kernel
theorem d_Heap_movedWord_75 : decode b_Heap_movedWord 75 = .ok (.iload 4, 2) := by decide +kernel
theorem d_Heap_movedWord_77 : decode b_Heap_movedWord 77 = .ok (.iload_n 3, 1) := by decide +kernel
theorem d_Heap_movedWord_78 : decode b_Heap_movedWord 78 = .ok (.iconst 1, 1) := by decide +kernel
theorem d_Heap_movedWord_79 : decode b_Heap_movedWord 79 = .ok (.iadd, 1) := by decide +kernel
theorem d_Heap_movedWord_80 : decode b_Heap_movedWord 80 = .ok (.invokestatic 106, 3) := by decide +kernel
theorem d_Heap_movedWord_83 : decode b_Heap_movedWord 83 = .ok (.aload_n 0, 1) := by decide +kernel
theorem d_Heap_movedWord_84 : decode b_Heap_movedWord 84 = .ok (.getfield 15, 3) := by decide +kernel
theorem d_Heap_movedWord_87 : decode b_Heap_movedWord 87 = .ok (.iload 4, 2) := by decide +kernel
theorem d_Heap_movedWord_89 : decode b_Heap_movedWord 89 = .ok (.iconst 1, 1) := by decide +kernel
theorem d_Heap_movedWord_90 : decode b_Heap_movedWord 90 = .ok (.isub, 1) := by decide +kernel
theorem d_Heap_movedWord_91 : decode b_Heap_movedWord 91 = .ok (.iload_n 2, 1) := by decide +kernel
theorem d_Heap_movedWord_92 : decode b_Heap_movedWord 92 = .ok (.sipush 128, 3) := by decide +kernel
theorem d_Heap_movedWord_95 : decode b_Heap_movedWord 95 = .ok (.if_icmp .lt 7, 3) := by decide +kernel
theorem d_Heap_movedWord_98 : decode b_Heap_movedWord 98 = .ok (.iload_n 2, 1) := by decide +kernel
theorem d_Heap_movedWord_99 : decode b_Heap_movedWord 99 = .ok (.goto 20, 3) := by decide +kernel
theorem d_Heap_movedWord_102 : decode b_Heap_movedWord 102 = .ok (.sipush 128, 3) := by decide +kernel
theorem d_Heap_movedWord_105 : decode b_Heap_movedWord 105 = .ok (.aload_n 0, 1) := by decide +kernel
theorem d_Heap_movedWord_106 : decode b_Heap_movedWord 106 = .ok (.getfield 31, 3) := by decide +kernel
theorem d_Heap_movedWord_109 : decode b_Heap_movedWord 109 = .ok (.aload_n 0, 1) := by decide +kernel
theorem d_Heap_movedWord_110 : decode b_Heap_movedWord 110 = .ok (.getfield 15, 3) := by decide +kernel
theorem d_Heap_movedWord_113 : decode b_Heap_movedWord 113 = .ok (.iload 4, 2) := by decide +kernel
theorem d_Heap_movedWord_115 : decode b_Heap_movedWord 115 = .ok (.invokevirtual 112, 3) := by decide +kernel
theorem d_Heap_movedWord_118 : decode b_Heap_movedWord 118 = .ok (.iadd, 1) := by decide +kernel
theorem d_Heap_movedWord_119 : decode b_Heap_movedWord 119 = .ok (.iastore, 1) := by decide +kernel
theorem d_Heap_movedWord_120 : decode b_Heap_movedWord 120 = .ok (.aload_n 0, 1) := by decide +kernel
theorem d_Heap_movedWord_121 : decode b_Heap_movedWord 121 = .ok (.iload 4, 2) := by decide +kernel
theorem d_Heap_movedWord_123 : decode b_Heap_movedWord 123 = .ok (.iload_n 3, 1) := by decide +kernel
theorem d_Heap_movedWord_124 : decode b_Heap_movedWord 124 = .ok (.iadd, 1) := by decide +kernel
theorem d_Heap_movedWord_125 : decode b_Heap_movedWord 125 = .ok (.iconst 1, 1) := by decide +kernel
theorem d_Heap_movedWord_126 : decode b_Heap_movedWord 126 = .ok (.iadd, 1) := by decide +kernel
theorem d_Heap_movedWord_127 : decode b_Heap_movedWord 127 = .ok (.putfield 153, 3) := by decide +kernel
theorem d_Heap_movedWord_130 : decode b_Heap_movedWord 130 = .ok (.iload_n 2, 1) := by decide +kernel
theorem d_Heap_movedWord_131 : decode b_Heap_movedWord 131 = .ok (.sipush 128, 3) := by decide +kernel
theorem d_Heap_movedWord_134 : decode b_Heap_movedWord 134 = .ok (.if_icmp .lt 14, 3) := by decide +kernel
theorem d_Heap_movedWord_137 : decode b_Heap_movedWord 137 = .ok (.aload_n 0, 1) := by decide +kernel
theorem d_Heap_movedWord_138 : decode b_Heap_movedWord 138 = .ok (.getfield 11, 3) := by decide +kernel
theorem d_Heap_movedWord_141 : decode b_Heap_movedWord 141 = .ok (.iload_n 1, 1) := by decide +kernel
theorem d_Heap_movedWord_142 : decode b_Heap_movedWord 142 = .ok (.iconst 1, 1) := by decide +kernel
theorem d_Heap_movedWord_143 : decode b_Heap_movedWord 143 = .ok (.isub, 1) := by decide +kernel
theorem d_Heap_movedWord_144 : decode b_Heap_movedWord 144 = .ok (.iload 4, 2) := by decide +kernel
theorem d_Heap_movedWord_146 : decode b_Heap_movedWord 146 = .ok (.ineg, 1) := by decide +kernel
theorem d_Heap_movedWord_147 : decode b_Heap_movedWord 147 = .ok (.iastore, 1) := by decide +kernel
theorem d_Heap_movedWord_148 : decode b_Heap_movedWord 148 = .ok (.iload 4, 2) := by decide +kernel
theorem d_Heap_movedWord_150 : decode b_Heap_movedWord 150 = .ok (.iconst 2, 1) := by decide +kernel
theorem d_Heap_movedWord_151 : decode b_Heap_movedWord 151 = .ok (.ishl, 1) := by decide +kernel
theorem d_Heap_movedWord_152 : decode b_Heap_movedWord 152 = .ok (.iconst 3, 1) := by decide +kernel
theorem d_Heap_movedWord_153 : decode b_Heap_movedWord 153 = .ok (.ior, 1) := by decide +kernel
theorem d_Heap_movedWord_154 : decode b_Heap_movedWord 154 = .ok (.ireturn, 1) := by decide +kernel
theorem d_Heap_quoted_0 : decode b_Heap_quoted 0 = .ok (.aload_n 0, 1) := by decide +kernel
theorem d_Heap_quoted_1 : decode b_Heap_quoted 1 = .ok (.iload_n 1, 1) := by decide +kernel
theorem d_Heap_quoted_2 : decode b_Heap_quoted 2 = .ok (.invokevirtual 132, 3) := by decide +kernel
theorem d_Heap_quoted_5 : decode b_Heap_quoted 5 = .ok (.istore_n 2, 1) := by decide +kernel
theorem d_Heap_quoted_6 : decode b_Heap_quoted 6 = .ok (.iload_n 2, 1) := by decide +kernel
theorem d_Heap_quoted_7 : decode b_Heap_quoted 7 = .ok (.ldc 71, 2) := by decide +kernel
theorem d_Heap_quoted_9 : decode b_Heap_quoted 9 = .ok (.if_icmp .ne 6, 3) := by decide +kernel
theorem d_Heap_quoted_12 : decode b_Heap_quoted 12 = .ok (.ldc 135, 2) := by decide +kernel
theorem d_Heap_quoted_14 : decode b_Heap_quoted 14 = .ok (.ireturn, 1) := by decide +kernel
theorem d_Heap_quoted_15 : decode b_Heap_quoted 15 = .ok (.iload_n 2, 1) := by decide +kernel
theorem d_Heap_quoted_16 : decode b_Heap_quoted 16 = .ok (.iconst 2, 1) := by decide +kernel
theorem d_Heap_quoted_17 : decode b_Heap_quoted 17 = .ok (.ishr, 1) := by decide +kernel
theorem d_Heap_quoted_18 : decode b_Heap_quoted 18 = .ok (.istore_n 3, 1) := by decide +kernel
theorem d_Heap_quoted_19 : decode b_Heap_quoted 19 = .ok (.aload_n 0, 1) := by decide +kernel
theorem d_Heap_quoted_20 : decode b_Heap_quoted 20 = .ok (.getfield 11, 3) := by decide +kernel
theorem d_Heap_quoted_23 : decode b_Heap_quoted 23 = .ok (.iload_n 3, 1) := by decide +kernel
theorem d_Heap_quoted_24 : decode b_Heap_quoted 24 = .ok (.iaload, 1) := by decide +kernel
theorem d_Heap_quoted_25 : decode b_Heap_quoted 25 = .ok (.bipush 57, 2) := by decide +kernel
theorem d_Heap_quoted_27 : decode b_Heap_quoted 27 = .ok (.if_icmp .le 5, 3) := by decide +kernel
theorem d_Heap_quoted_30 : decode b_Heap_quoted 30 = .ok (.iload_n 2, 1) := by decide +kernel
theorem d_Heap_quoted_31 : decode b_Heap_quoted 31 = .ok (.ireturn, 1) := by decide +kernel
theorem d_Heap_quoted_32 : decode b_Heap_quoted 32 = .ok (.aload_n 0, 1) := by decide +kernel
theorem d_Heap_quoted_33 : decode b_Heap_quoted 33 = .ok (.getfield 11, 3) := by decide +kernel
theorem d_Heap_quoted_36 : decode b_Heap_quoted 36 = .ok (.iload_n 3, 1) := by decide +kernel
theorem d_Heap_quoted_37 : decode b_Heap_quoted 37 = .ok (.iload_n 3, 1) := by decide +kernel
theorem d_Heap_quoted_38 : decode b_Heap_quoted 38 = .ok (.aload_n 0, 1) := by decide +kernel
theorem d_Heap_quoted_39 : decode b_Heap_quoted 39 = .ok (.iload_n 2, 1) := by decide +kernel
theorem d_Heap_quoted_40 : decode b_Heap_quoted 40 = .ok (.invokevirtual 119, 3) := by decide +kernel
theorem d_Heap_quoted_43 : decode b_Heap_quoted 43 = .ok (.iadd, 1) := by decide +kernel
theorem d_Heap_quoted_44 : decode b_Heap_quoted 44 = .ok (.invokestatic 136, 3) := by decide +kernel
theorem d_Heap_quoted_47 : decode b_Heap_quoted 47 = .ok (.istore 4, 2) := by decide +kernel
theorem d_Heap_quoted_49 : decode b_Heap_quoted 49 = .ok (.iload 4, 2) := by decide +kernel
theorem d_Heap_quoted_51 : decode b_Heap_quoted 51 = .ok (.ldc 71, 2) := by decide +kernel
theorem d_Heap_quoted_53 : decode b_Heap_quoted 53 = .ok (.if_icmp .ne 7, 3) := by decide +kernel
theorem d_Heap_quoted_56 : decode b_Heap_quoted 56 = .ok (.iload_n 2, 1) := by decide +kernel
theorem d_Heap_quoted_57 : decode b_Heap_quoted 57 = .ok (.goto 5, 3) := by decide +kernel
theorem d_Heap_quoted_60 : decode b_Heap_quoted 60 = .ok (.iload 4, 2) := by decide +kernel
theorem d_Heap_quoted_62 : decode b_Heap_quoted 62 = .ok (.ireturn, 1) := by decide +kernel
theorem lk_Heap_132 : Cond.methodLink "TurtleWorld$Heap" 132 ⟨"TurtleWorld$Heap", "behind", "(I)I"⟩ ∈ tw_T := tw_i5 55 (by decide +kernel) (by decide +kernel)
theorem lk_Heap_136 : Cond.methodLink "TurtleWorld$Heap" 136 ⟨"TurtleWorld$Heap", "numberIn", "([III)I"⟩ ∈ tw_T := tw_i5 57 (by decide +kernel) (by decide +kernel)
theorem hd_Math_min2 : y_Math_min2.cls ≠ "java/lang/invoke/MethodHandle" ∧ y_Math_min2.cls ≠ "java/lang/invoke/VarHandle" ∧ (parseMethodDescriptor y_Math_min2.desc).map (fun d => d.parameters.length) = some 2 := by decide +kernel
theorem hd_Heap_numberIn : y_Heap_numberIn.cls ≠ "java/lang/invoke/MethodHandle" ∧ y_Heap_numberIn.cls ≠ "java/lang/invoke/VarHandle" ∧ (parseMethodDescriptor y_Heap_numberIn.desc).map (fun d => d.parameters.length) = some 3 := by decide +kernel
theorem st_Heap_numberIn : Cond.static ⟨"TurtleWorld$Heap", "numberIn", "([III)I"⟩ ∈ tw_T := tw_i4 87 (by decide +kernel) (by decide +kernel)
theorem lk_Heap_135 : Cond.constant "TurtleWorld$Heap" 135 (-2147483645) ∈ tw_T := tw_i5 56 (by decide +kernel) (by decide +kernel)
theorem hd_Names_findLocal : y_Names_findLocal.cls ≠ "java/lang/invoke/MethodHandle" ∧ y_Names_findLocal.cls ≠ "java/lang/invoke/VarHandle" ∧ (parseMethodDescriptor y_Names_findLocal.desc).map (fun d => d.parameters.length) = some 2 := by decide +kernel
theorem hd_Names_findGlobal : y_Names_findGlobal.cls ≠ "java/lang/invoke/MethodHandle" ∧ y_Names_findGlobal.cls ≠ "java/lang/invoke/VarHandle" ∧ (parseMethodDescriptor y_Names_findGlobal.desc).map (fun d => d.parameters.length) = some 1 := by decide +kernel
theorem hd_Waiting_meetCall : y_Waiting_meetCall.cls ≠ "java/lang/invoke/MethodHandle" ∧ y_Waiting_meetCall.cls ≠ "java/lang/invoke/VarHandle" ∧ (parseMethodDescriptor y_Waiting_meetCall.desc).map (fun d => d.parameters.length) = some 4 := by decide +kernel
theorem hd_Machine_leave : y_Machine_leave.cls ≠ "java/lang/invoke/MethodHandle" ∧ y_Machine_leave.cls ≠ "java/lang/invoke/VarHandle" ∧ (parseMethodDescriptor y_Machine_leave.desc).map (fun d => d.parameters.length) = some 1 := by decide +kernel
theorem hd_Waiting_begin : y_Waiting_begin.cls ≠ "java/lang/invoke/MethodHandle" ∧ y_Waiting_begin.cls ≠ "java/lang/invoke/VarHandle" ∧ (parseMethodDescriptor y_Waiting_begin.desc).map (fun d => d.parameters.length) = some 0 := by decide +kernel
theorem d_Machine_leaveGiving_0 : decode b_Machine_leaveGiving 0 = .ok (.aload_n 0, 1) := by decide +kernel
theorem d_Machine_leaveGiving_1 : decode b_Machine_leaveGiving 1 = .ok (.iload_n 1, 1) := by decide +kernel
theorem d_Machine_leaveGiving_2 : decode b_Machine_leaveGiving 2 = .ok (.invokevirtual 87, 3) := by decide +kernel
theorem d_Machine_leaveGiving_5 : decode b_Machine_leaveGiving 5 = .ok (.iload_n 2, 1) := by decide +kernel
theorem d_Machine_leaveGiving_6 : decode b_Machine_leaveGiving 6 = .ok (.ireturn, 1) := by decide +kernel
theorem d_Machine_openCall_0 : decode b_Machine_openCall 0 = .ok (.aload_n 0, 1) := by decide +kernel
theorem d_Machine_openCall_1 : decode b_Machine_openCall 1 = .ok (.getfield 18, 3) := by decide +kernel
theorem d_Machine_openCall_4 : decode b_Machine_openCall 4 = .ok (.iconst 1, 1) := by decide +kernel
theorem d_Machine_openCall_5 : decode b_Machine_openCall 5 = .ok (.aload_n 0, 1) := by decide +kernel
theorem d_Machine_openCall_6 : decode b_Machine_openCall 6 = .ok (.getfield 22, 3) := by decide +kernel
theorem d_Machine_openCall_9 : decode b_Machine_openCall 9 = .ok (.getfield 337, 3) := by decide +kernel
theorem d_Machine_openCall_12 : decode b_Machine_openCall 12 = .ok (.iload_n 1, 1) := by decide +kernel
theorem d_Machine_openCall_13 : decode b_Machine_openCall 13 = .ok (.iaload, 1) := by decide +kernel
theorem d_Machine_openCall_14 : decode b_Machine_openCall 14 = .ok (.aload_n 0, 1) := by decide +kernel
theorem d_Machine_openCall_15 : decode b_Machine_openCall 15 = .ok (.getfield 22, 3) := by decide +kernel
theorem d_Machine_openCall_18 : decode b_Machine_openCall 18 = .ok (.invokevirtual 58, 3) := by decide +kernel
theorem d_Machine_openCall_21 : decode b_Machine_openCall 21 = .ok (.ifCond .ne 7, 3) := by decide +kernel
theorem d_Machine_openCall_24 : decode b_Machine_openCall 24 = .ok (.ldc_w 340, 3) := by decide +kernel
theorem d_Machine_openCall_27 : decode b_Machine_openCall 27 = .ok (.ireturn, 1) := by decide +kernel
theorem d_Machine_openCall_28 : decode b_Machine_openCall 28 = .ok (.aload_n 0, 1) := by decide +kernel
theorem d_Machine_openCall_29 : decode b_Machine_openCall 29 = .ok (.getfield 18, 3) := by decide +kernel
theorem d_Machine_openCall_32 : decode b_Machine_openCall 32 = .ok (.aload_n 0, 1) := by decide +kernel
theorem d_Machine_openCall_33 : decode b_Machine_openCall 33 = .ok (.getfield 22, 3) := by decide +kernel
theorem d_Machine_openCall_36 : decode b_Machine_openCall 36 = .ok (.getfield 302, 3) := by decide +kernel
theorem d_Machine_openCall_39 : decode b_Machine_openCall 39 = .ok (.iload_n 1, 1) := by decide +kernel
theorem d_Machine_openCall_40 : decode b_Machine_openCall 40 = .ok (.iaload, 1) := by decide +kernel
theorem d_Machine_openCall_41 : decode b_Machine_openCall 41 = .ok (.ldc 114, 2) := by decide +kernel
theorem d_Machine_openCall_43 : decode b_Machine_openCall 43 = .ok (.invokevirtual 341, 3) := by decide +kernel
theorem d_Machine_openCall_46 : decode b_Machine_openCall 46 = .ok (.aload_n 0, 1) := by decide +kernel
theorem d_Machine_openCall_47 : decode b_Machine_openCall 47 = .ok (.getfield 18, 3) := by decide +kernel
theorem d_Machine_openCall_50 : decode b_Machine_openCall 50 = .ok (.getfield 145, 3) := by decide +kernel
theorem d_Machine_openCall_53 : decode b_Machine_openCall 53 = .ok (.aload_n 0, 1) := by decide +kernel
theorem d_Machine_openCall_54 : decode b_Machine_openCall 54 = .ok (.getfield 18, 3) := by decide +kernel
theorem d_Machine_openCall_57 : decode b_Machine_openCall 57 = .ok (.getfield 130, 3) := by decide +kernel
theorem d_Machine_openCall_60 : decode b_Machine_openCall 60 = .ok (.iconst 1, 1) := by decide +kernel
theorem d_Machine_openCall_61 : decode b_Machine_openCall 61 = .ok (.isub, 1) := by decide +kernel
theorem d_Machine_openCall_62 : decode b_Machine_openCall 62 = .ok (.aload_n 0, 1) := by decide +kernel
theorem d_Machine_openCall_63 : decode b_Machine_openCall 63 = .ok (.getfield 26, 3) := by decide +kernel
theorem d_Machine_openCall_66 : decode b_Machine_openCall 66 = .ok (.getfield 344, 3) := by decide +kernel
theorem d_Machine_openCall_69 : decode b_Machine_openCall 69 = .ok (.iastore, 1) := by decide +kernel
theorem d_Machine_openCall_70 : decode b_Machine_openCall 70 = .ok (.aload_n 0, 1) := by decide +kernel
theorem d_Machine_openCall_71 : decode b_Machine_openCall 71 = .ok (.getfield 18, 3) := by decide +kernel
theorem d_Machine_openCall_74 : decode b_Machine_openCall 74 = .ok (.dup, 1) := by decide +kernel
theorem d_Machine_openCall_75 : decode b_Machine_openCall 75 = .ok (.getfield 148, 3) := by decide +kernel
theorem d_Machine_openCall_78 : decode b_Machine_openCall 78 = .ok (.iconst 1, 1) := by decide +kernel
theorem d_Machine_openCall_79 : decode b_Machine_openCall 79 = .ok (.iadd, 1) := by decide +kernel
theorem d_Machine_openCall_80 : decode b_Machine_openCall 80 = .ok (.putfield 148, 3) := by decide +kernel
theorem d_Machine_openCall_83 : decode b_Machine_openCall 83 = .ok (.aload_n 0, 1) := by decide +kernel
theorem d_Machine_openCall_84 : decode b_Machine_openCall 84 = .ok (.getfield 22, 3) := by decide +kernel
theorem d_Machine_openCall_87 : decode b_Machine_openCall 87 = .ok (.getfield 346, 3) := by decide +kernel
theorem d_Machine_openCall_90 : decode b_Machine_openCall 90 = .ok (.iload_n 1, 1) := by decide +kernel
theorem d_Machine_openCall_91 : decode b_Machine_openCall 91 = .ok (.iaload, 1) := by decide +kernel
theorem d_Machine_openCall_92 : decode b_Machine_openCall 92 = .ok (.istore_n 2, 1) := by decide +kernel
theorem d_Machine_openCall_93 : decode b_Machine_openCall 93 = .ok (.aload_n 0, 1) := by decide +kernel
theorem d_Machine_openCall_94 : decode b_Machine_openCall 94 = .ok (.getfield 15, 3) := by decide +kernel
theorem d_Machine_openCall_97 : decode b_Machine_openCall 97 = .ok (.iload_n 2, 1) := by decide +kernel
theorem d_Machine_openCall_98 : decode b_Machine_openCall 98 = .ok (.invokevirtual 221, 3) := by decide +kernel
theorem d_Machine_openCall_101 : decode b_Machine_openCall 101 = .ok (.istore_n 3, 1) := by decide +kernel
theorem d_Machine_openCall_102 : decode b_Machine_openCall 102 = .ok (.iconst 0, 1) := by decide +kernel
theorem d_Machine_openCall_103 : decode b_Machine_openCall 103 = .ok (.istore 4, 2) := by decide +kernel
theorem d_Machine_openCall_105 : decode b_Machine_openCall 105 = .ok (.iload 4, 2) := by decide +kernel
theorem d_Machine_openCall_107 : decode b_Machine_openCall 107 = .ok (.iload_n 3, 1) := by decide +kernel
theorem d_Machine_openCall_108 : decode b_Machine_openCall 108 = .ok (.if_icmp .ge 35, 3) := by decide +kernel
theorem d_Machine_openCall_111 : decode b_Machine_openCall 111 = .ok (.aload_n 0, 1) := by decide +kernel
theorem d_Machine_openCall_112 : decode b_Machine_openCall 112 = .ok (.getfield 26, 3) := by decide +kernel
theorem d_Machine_openCall_115 : decode b_Machine_openCall 115 = .ok (.aload_n 0, 1) := by decide +kernel
theorem d_Machine_openCall_116 : decode b_Machine_openCall 116 = .ok (.getfield 15, 3) := by decide +kernel
theorem d_Machine_openCall_119 : decode b_Machine_openCall 119 = .ok (.iload_n 2, 1) := by decide +kernel
theorem d_Machine_openCall_120 : decode b_Machine_openCall 120 = .ok (.iload 4, 2) := by decide +kernel
theorem d_Machine_openCall_122 : decode b_Machine_openCall 122 = .ok (.invokevirtual 167, 3) := by decide +kernel
theorem d_Machine_openCall_125 : decode b_Machine_openCall 125 = .ok (.aload_n 0, 1) := by decide +kernel
theorem d_Machine_openCall_126 : decode b_Machine_openCall 126 = .ok (.getfield 22, 3) := by decide +kernel
theorem d_Machine_openCall_129 : decode b_Machine_openCall 129 = .ok (.iload 4, 2) := by decide +kernel
theorem d_Machine_openCall_131 : decode b_Machine_openCall 131 = .ok (.invokevirtual 347, 3) := by decide +kernel
theorem d_Machine_openCall_134 : decode b_Machine_openCall 134 = .ok (.invokevirtual 350, 3) := by decide +kernel
theorem d_Machine_openCall_137 : decode b_Machine_openCall 137 = .ok (.iinc 4 1, 3) := by decide +kernel
theorem d_Machine_openCall_140 : decode b_Machine_openCall 140 = .ok (.goto (-35), 3) := by decide +kernel
theorem d_Machine_openCall_143 : decode b_Machine_openCall 143 = .ok (.ldc 110, 2) := by decide +kernel
theorem d_Machine_openCall_145 : decode b_Machine_openCall 145 = .ok (.ireturn, 1) := by decide +kernel
theorem lk_Machine_337 : Cond.fieldLink "TurtleWorld$Machine" 337 "TurtleWorld$Waiting" "body" "[I" ∈ tw_T := tw_i3 94 (by decide +kernel) (by decide +kernel)
theorem lk_Machine_302 : Cond.fieldLink "TurtleWorld$Machine" 302 "TurtleWorld$Waiting" "code" "[I" ∈ tw_T := tw_i3 85 (by decide +kernel) (by decide +kernel)
theorem lk_Machine_344 : Cond.fieldLink "TurtleWorld$Machine" 344 "TurtleWorld$Names" "locals" "I" ∈ tw_T := tw_i2 18 (by decide +kernel) (by decide +kernel)
theorem lk_Machine_346 : Cond.fieldLink "TurtleWorld$Machine" 346 "TurtleWorld$Waiting" "inputs" "[I" ∈ tw_T := tw_i3 92 (by decide +kernel) (by decide +kernel)
theorem hd_Heap_member : y_Heap_member.cls ≠ "java/lang/invoke/MethodHandle" ∧ y_Heap_member.cls ≠ "java/lang/invoke/VarHandle" ∧ (parseMethodDescriptor y_Heap_member.desc).map (fun d => d.parameters.length) = some 2 := by decide +kernel
theorem lk_Machine_347 : Cond.methodLink "TurtleWorld$Machine" 347 ⟨"TurtleWorld$Waiting", "input", "(I)I"⟩ ∈ tw_T := tw_i5 221 (by decide +kernel) (by decide +kernel)
theorem lk_Machine_350 : Cond.methodLink "TurtleWorld$Machine" 350 ⟨"TurtleWorld$Names", "addLocal", "(II)V"⟩ ∈ tw_T := tw_i5 226 (by decide +kernel) (by decide +kernel)
theorem hd_Names_addLocal : y_Names_addLocal.cls ≠ "java/lang/invoke/MethodHandle" ∧ y_Names_addLocal.cls ≠ "java/lang/invoke/VarHandle" ∧ (parseMethodDescriptor y_Names_addLocal.desc).map (fun d => d.parameters.length) = some 2 := by decide +kernel
theorem in_Names_addLocal : Cond.instanceMethod ⟨"TurtleWorld$Names", "addLocal", "(II)V"⟩ ∈ tw_T := tw_i5 227 (by decide +kernel) (by decide +kernel)
theorem sel_Names_addLocal : Cond.selects "TurtleWorld$Names" ⟨"TurtleWorld$Names", "addLocal", "(II)V"⟩ ⟨"TurtleWorld$Names", "addLocal", "(II)V"⟩ ∈ tw_T := tw_i5 228 (by decide +kernel) (by decide +kernel)
theorem d_Deeds_inputsFit_0 : decode b_Deeds_inputsFit 0 = .ok (.aload_n 0, 1) := by decide +kernel
theorem d_Deeds_inputsFit_1 : decode b_Deeds_inputsFit 1 = .ok (.getfield 15, 3) := by decide +kernel
theorem d_Deeds_inputsFit_4 : decode b_Deeds_inputsFit 4 = .ok (.getfield 46, 3) := by decide +kernel
theorem d_Deeds_inputsFit_7 : decode b_Deeds_inputsFit 7 = .ok (.iload_n 1, 1) := by decide +kernel
theorem d_Deeds_inputsFit_8 : decode b_Deeds_inputsFit 8 = .ok (.invokevirtual 52, 3) := by decide +kernel
theorem d_Deeds_inputsFit_11 : decode b_Deeds_inputsFit 11 = .ok (.istore_n 2, 1) := by decide +kernel
theorem d_Deeds_inputsFit_12 : decode b_Deeds_inputsFit 12 = .ok (.iconst 0, 1) := by decide +kernel
theorem d_Deeds_inputsFit_13 : decode b_Deeds_inputsFit 13 = .ok (.istore_n 3, 1) := by decide +kernel
theorem d_Deeds_inputsFit_14 : decode b_Deeds_inputsFit 14 = .ok (.iload_n 3, 1) := by decide +kernel
theorem d_Deeds_inputsFit_15 : decode b_Deeds_inputsFit 15 = .ok (.iload_n 2, 1) := by decide +kernel
theorem d_Deeds_inputsFit_16 : decode b_Deeds_inputsFit 16 = .ok (.if_icmp .ge 38, 3) := by decide +kernel
theorem d_Deeds_inputsFit_19 : decode b_Deeds_inputsFit 19 = .ok (.aload_n 0, 1) := by decide +kernel
theorem d_Deeds_inputsFit_20 : decode b_Deeds_inputsFit 20 = .ok (.aload_n 0, 1) := by decide +kernel
theorem d_Deeds_inputsFit_21 : decode b_Deeds_inputsFit 21 = .ok (.getfield 15, 3) := by decide +kernel
theorem d_Deeds_inputsFit_24 : decode b_Deeds_inputsFit 24 = .ok (.getfield 46, 3) := by decide +kernel
theorem d_Deeds_inputsFit_27 : decode b_Deeds_inputsFit 27 = .ok (.iload_n 1, 1) := by decide +kernel
theorem d_Deeds_inputsFit_28 : decode b_Deeds_inputsFit 28 = .ok (.iload_n 3, 1) := by decide +kernel
theorem d_Deeds_inputsFit_29 : decode b_Deeds_inputsFit 29 = .ok (.invokevirtual 58, 3) := by decide +kernel
theorem d_Deeds_inputsFit_32 : decode b_Deeds_inputsFit 32 = .ok (.aload_n 0, 1) := by decide +kernel
theorem d_Deeds_inputsFit_33 : decode b_Deeds_inputsFit 33 = .ok (.getfield 22, 3) := by decide +kernel
theorem d_Deeds_inputsFit_36 : decode b_Deeds_inputsFit 36 = .ok (.iload_n 3, 1) := by decide +kernel
theorem d_Deeds_inputsFit_37 : decode b_Deeds_inputsFit 37 = .ok (.invokevirtual 62, 3) := by decide +kernel
theorem d_Deeds_inputsFit_40 : decode b_Deeds_inputsFit 40 = .ok (.invokevirtual 67, 3) := by decide +kernel
theorem d_Deeds_inputsFit_43 : decode b_Deeds_inputsFit 43 = .ok (.ifCond .ne 5, 3) := by decide +kernel
theorem d_Deeds_inputsFit_46 : decode b_Deeds_inputsFit 46 = .ok (.iconst 0, 1) := by decide +kernel
theorem d_Deeds_inputsFit_47 : decode b_Deeds_inputsFit 47 = .ok (.ireturn, 1) := by decide +kernel
theorem d_Deeds_inputsFit_48 : decode b_Deeds_inputsFit 48 = .ok (.iinc 3 1, 3) := by decide +kernel
theorem d_Deeds_inputsFit_51 : decode b_Deeds_inputsFit 51 = .ok (.goto (-37), 3) := by decide +kernel
theorem d_Deeds_inputsFit_54 : decode b_Deeds_inputsFit 54 = .ok (.iconst 1, 1) := by decide +kernel
theorem d_Deeds_inputsFit_55 : decode b_Deeds_inputsFit 55 = .ok (.ireturn, 1) := by decide +kernel
theorem lk_Deeds_46 : Cond.fieldLink "TurtleWorld$Deeds" 46 "TurtleWorld$Heap" "lexicon" "LTurtleWorld$Lexicon;" ∈ tw_T := tw_i1 197 (by decide +kernel) (by decide +kernel)
theorem lk_Deeds_52 : Cond.methodLink "TurtleWorld$Deeds" 52 ⟨"TurtleWorld$Lexicon", "arity", "(I)I"⟩ ∈ tw_T := tw_i5 234 (by decide +kernel) (by decide +kernel)
theorem hd_Lexicon_arity : y_Lexicon_arity.cls ≠ "java/lang/invoke/MethodHandle" ∧ y_Lexicon_arity.cls ≠ "java/lang/invoke/VarHandle" ∧ (parseMethodDescriptor y_Lexicon_arity.desc).map (fun d => d.parameters.length) = some 1 := by decide +kernel
theorem in_Lexicon_arity : Cond.instanceMethod ⟨"TurtleWorld$Lexicon", "arity", "(I)I"⟩ ∈ tw_T := tw_i5 97 (by decide +kernel) (by decide +kernel)
theorem sel_Lexicon_arity : Cond.selects "TurtleWorld$Lexicon" ⟨"TurtleWorld$Lexicon", "arity", "(I)I"⟩ ⟨"TurtleWorld$Lexicon", "arity", "(I)I"⟩ ∈ tw_T := tw_i5 98 (by decide +kernel) (by decide +kernel)
theorem lk_Deeds_58 : Cond.methodLink "TurtleWorld$Deeds" 58 ⟨"TurtleWorld$Lexicon", "kind", "(II)I"⟩ ∈ tw_T := tw_i5 235 (by decide +kernel) (by decide +kernel)
theorem hd_Lexicon_kind : y_Lexicon_kind.cls ≠ "java/lang/invoke/MethodHandle" ∧ y_Lexicon_kind.cls ≠ "java/lang/invoke/VarHandle" ∧ (parseMethodDescriptor y_Lexicon_kind.desc).map (fun d => d.parameters.length) = some 2 := by decide +kernel
theorem in_Lexicon_kind : Cond.instanceMethod ⟨"TurtleWorld$Lexicon", "kind", "(II)I"⟩ ∈ tw_T := tw_i5 236 (by decide +kernel) (by decide +kernel)
theorem sel_Lexicon_kind : Cond.selects "TurtleWorld$Lexicon" ⟨"TurtleWorld$Lexicon", "kind", "(II)I"⟩ ⟨"TurtleWorld$Lexicon", "kind", "(II)I"⟩ ∈ tw_T := tw_i5 237 (by decide +kernel) (by decide +kernel)
theorem lk_Deeds_67 : Cond.methodLink "TurtleWorld$Deeds" 67 ⟨"TurtleWorld$Deeds", "fits", "(II)Z"⟩ ∈ tw_T := tw_i6 0 (by decide +kernel) (by decide +kernel)
theorem hd_Deeds_fits : y_Deeds_fits.cls ≠ "java/lang/invoke/MethodHandle" ∧ y_Deeds_fits.cls ≠ "java/lang/invoke/VarHandle" ∧ (parseMethodDescriptor y_Deeds_fits.desc).map (fun d => d.parameters.length) = some 2 := by decide +kernel
theorem in_Deeds_fits : Cond.instanceMethod ⟨"TurtleWorld$Deeds", "fits", "(II)Z"⟩ ∈ tw_T := tw_i6 2 (by decide +kernel) (by decide +kernel)
theorem sel_Deeds_fits : Cond.selects "TurtleWorld$Deeds" ⟨"TurtleWorld$Deeds", "fits", "(II)Z"⟩ ⟨"TurtleWorld$Deeds", "fits", "(II)Z"⟩ ∈ tw_T := tw_inS 55 (by decide +kernel) (by decide +kernel)
theorem d_Turtles_draw_0 : decode b_Turtles_draw 0 = .ok (.iload_n 1, 1) := by decide +kernel
theorem d_Turtles_draw_1 : decode b_Turtles_draw 1 = .ok (.iconst 2, 1) := by decide +kernel
theorem d_Turtles_draw_2 : decode b_Turtles_draw 2 = .ok (.if_icmp .lt 12, 3) := by decide +kernel
theorem d_Turtles_draw_5 : decode b_Turtles_draw 5 = .ok (.iload_n 1, 1) := by decide +kernel
theorem d_Turtles_draw_6 : decode b_Turtles_draw 6 = .ok (.iconst 4, 1) := by decide +kernel
theorem d_Turtles_draw_7 : decode b_Turtles_draw 7 = .ok (.if_icmp .gt 7, 3) := by decide +kernel
theorem d_Turtles_draw_10 : decode b_Turtles_draw 10 = .ok (.iconst 1, 1) := by decide +kernel
theorem d_Turtles_draw_11 : decode b_Turtles_draw 11 = .ok (.goto 4, 3) := by decide +kernel
theorem d_Turtles_draw_14 : decode b_Turtles_draw 14 = .ok (.iconst 0, 1) := by decide +kernel
theorem d_Turtles_draw_15 : decode b_Turtles_draw 15 = .ok (.istore_n 3, 1) := by decide +kernel
theorem d_Turtles_draw_16 : decode b_Turtles_draw 16 = .ok (.iload_n 3, 1) := by decide +kernel
theorem d_Turtles_draw_17 : decode b_Turtles_draw 17 = .ok (.ifCond .eq 7, 3) := by decide +kernel
theorem d_Turtles_draw_20 : decode b_Turtles_draw 20 = .ok (.iconst 0, 1) := by decide +kernel
theorem d_Turtles_draw_21 : decode b_Turtles_draw 21 = .ok (.goto 4, 3) := by decide +kernel
theorem d_Turtles_draw_24 : decode b_Turtles_draw 24 = .ok (.iconst 2, 1) := by decide +kernel
theorem d_Turtles_draw_25 : decode b_Turtles_draw 25 = .ok (.istore 4, 2) := by decide +kernel
theorem d_Turtles_draw_27 : decode b_Turtles_draw 27 = .ok (.iconst 2, 1) := by decide +kernel
theorem d_Turtles_draw_28 : decode b_Turtles_draw 28 = .ok (.iload 4, 2) := by decide +kernel
theorem d_Turtles_draw_30 : decode b_Turtles_draw 30 = .ok (.isub, 1) := by decide +kernel
theorem d_Turtles_draw_31 : decode b_Turtles_draw 31 = .ok (.istore 5, 2) := by decide +kernel
theorem d_Turtles_draw_33 : decode b_Turtles_draw 33 = .ok (.aload_n 0, 1) := by decide +kernel
theorem d_Turtles_draw_34 : decode b_Turtles_draw 34 = .ok (.getfield 21, 3) := by decide +kernel
theorem d_Turtles_draw_37 : decode b_Turtles_draw 37 = .ok (.iload 4, 2) := by decide +kernel
theorem d_Turtles_draw_39 : decode b_Turtles_draw 39 = .ok (.iaload, 1) := by decide +kernel
theorem d_Turtles_draw_40 : decode b_Turtles_draw 40 = .ok (.aload_n 0, 1) := by decide +kernel
theorem d_Turtles_draw_41 : decode b_Turtles_draw 41 = .ok (.getfield 21, 3) := by decide +kernel
theorem d_Turtles_draw_44 : decode b_Turtles_draw 44 = .ok (.iload 4, 2) := by decide +kernel
theorem d_Turtles_draw_46 : decode b_Turtles_draw 46 = .ok (.iconst 1, 1) := by decide +kernel
theorem d_Turtles_draw_47 : decode b_Turtles_draw 47 = .ok (.iadd, 1) := by decide +kernel
theorem d_Turtles_draw_48 : decode b_Turtles_draw 48 = .ok (.iaload, 1) := by decide +kernel
theorem d_Turtles_draw_49 : decode b_Turtles_draw 49 = .ok (.iadd, 1) := by decide +kernel
theorem d_Turtles_draw_50 : decode b_Turtles_draw 50 = .ok (.aload_n 0, 1) := by decide +kernel
theorem d_Turtles_draw_51 : decode b_Turtles_draw 51 = .ok (.getfield 18, 3) := by decide +kernel
theorem d_Turtles_draw_54 : decode b_Turtles_draw 54 = .ok (.iload 4, 2) := by decide +kernel
theorem d_Turtles_draw_56 : decode b_Turtles_draw 56 = .ok (.iaload, 1) := by decide +kernel
theorem d_Turtles_draw_57 : decode b_Turtles_draw 57 = .ok (.aload_n 0, 1) := by decide +kernel
theorem d_Turtles_draw_58 : decode b_Turtles_draw 58 = .ok (.getfield 18, 3) := by decide +kernel
theorem d_Turtles_draw_61 : decode b_Turtles_draw 61 = .ok (.iload 4, 2) := by decide +kernel
theorem d_Turtles_draw_63 : decode b_Turtles_draw 63 = .ok (.iconst 1, 1) := by decide +kernel
theorem d_Turtles_draw_64 : decode b_Turtles_draw 64 = .ok (.iadd, 1) := by decide +kernel
theorem d_Turtles_draw_65 : decode b_Turtles_draw 65 = .ok (.iaload, 1) := by decide +kernel
theorem d_Turtles_draw_66 : decode b_Turtles_draw 66 = .ok (.iadd, 1) := by decide +kernel
theorem d_Turtles_draw_67 : decode b_Turtles_draw 67 = .ok (.if_icmp .le 7, 3) := by decide +kernel
theorem d_Turtles_draw_70 : decode b_Turtles_draw 70 = .ok (.iconst 1, 1) := by decide +kernel
theorem d_Turtles_draw_71 : decode b_Turtles_draw 71 = .ok (.goto 4, 3) := by decide +kernel
theorem d_Turtles_draw_74 : decode b_Turtles_draw 74 = .ok (.iconst 0, 1) := by decide +kernel
theorem d_Turtles_draw_75 : decode b_Turtles_draw 75 = .ok (.istore 6, 2) := by decide +kernel
theorem d_Turtles_draw_77 : decode b_Turtles_draw 77 = .ok (.iload 6, 2) := by decide +kernel
theorem d_Turtles_draw_79 : decode b_Turtles_draw 79 = .ok (.ifCond .eq 10, 3) := by decide +kernel
theorem d_Turtles_draw_82 : decode b_Turtles_draw 82 = .ok (.aload_n 0, 1) := by decide +kernel
theorem d_Turtles_draw_83 : decode b_Turtles_draw 83 = .ok (.getfield 18, 3) := by decide +kernel
theorem d_Turtles_draw_86 : decode b_Turtles_draw 86 = .ok (.goto 7, 3) := by decide +kernel
theorem d_Turtles_draw_89 : decode b_Turtles_draw 89 = .ok (.aload_n 0, 1) := by decide +kernel
theorem d_Turtles_draw_90 : decode b_Turtles_draw 90 = .ok (.getfield 21, 3) := by decide +kernel
theorem d_Turtles_draw_93 : decode b_Turtles_draw 93 = .ok (.astore 7, 2) := by decide +kernel
theorem d_Turtles_draw_95 : decode b_Turtles_draw 95 = .ok (.iload 6, 2) := by decide +kernel
theorem d_Turtles_draw_97 : decode b_Turtles_draw 97 = .ok (.ifCond .eq 10, 3) := by decide +kernel
theorem d_Turtles_draw_100 : decode b_Turtles_draw 100 = .ok (.aload_n 0, 1) := by decide +kernel
theorem d_Turtles_draw_101 : decode b_Turtles_draw 101 = .ok (.getfield 21, 3) := by decide +kernel
theorem d_Turtles_draw_104 : decode b_Turtles_draw 104 = .ok (.goto 7, 3) := by decide +kernel
theorem d_Turtles_draw_107 : decode b_Turtles_draw 107 = .ok (.aload_n 0, 1) := by decide +kernel
theorem d_Turtles_draw_108 : decode b_Turtles_draw 108 = .ok (.getfield 18, 3) := by decide +kernel
theorem d_Turtles_draw_111 : decode b_Turtles_draw 111 = .ok (.astore 8, 2) := by decide +kernel
theorem d_Turtles_draw_113 : decode b_Turtles_draw 113 = .ok (.aload 7, 2) := by decide +kernel
theorem d_Turtles_draw_115 : decode b_Turtles_draw 115 = .ok (.iload 4, 2) := by decide +kernel
theorem d_Turtles_draw_117 : decode b_Turtles_draw 117 = .ok (.iaload, 1) := by decide +kernel
theorem d_Turtles_draw_118 : decode b_Turtles_draw 118 = .ok (.iconst 1, 1) := by decide +kernel
theorem d_Turtles_draw_119 : decode b_Turtles_draw 119 = .ok (.iadd, 1) := by decide +kernel
theorem d_Turtles_draw_120 : decode b_Turtles_draw 120 = .ok (.i2l, 1) := by decide +kernel
theorem d_Turtles_draw_121 : decode b_Turtles_draw 121 = .ok (.aload 7, 2) := by decide +kernel
theorem d_Turtles_draw_123 : decode b_Turtles_draw 123 = .ok (.iload 4, 2) := by decide +kernel
theorem d_Turtles_draw_125 : decode b_Turtles_draw 125 = .ok (.iconst 1, 1) := by decide +kernel
theorem d_Turtles_draw_126 : decode b_Turtles_draw 126 = .ok (.iadd, 1) := by decide +kernel
theorem d_Turtles_draw_127 : decode b_Turtles_draw 127 = .ok (.iaload, 1) := by decide +kernel
theorem d_Turtles_draw_128 : decode b_Turtles_draw 128 = .ok (.i2l, 1) := by decide +kernel
theorem d_Turtles_draw_129 : decode b_Turtles_draw 129 = .ok (.invokestatic 84, 3) := by decide +kernel
theorem d_Turtles_draw_132 : decode b_Turtles_draw 132 = .ok (.ldc2_w 87, 3) := by decide +kernel
theorem d_Turtles_draw_135 : decode b_Turtles_draw 135 = .ok (.invokestatic 89, 3) := by decide +kernel
theorem d_Turtles_draw_138 : decode b_Turtles_draw 138 = .ok (.l2i, 1) := by decide +kernel
theorem d_Turtles_draw_139 : decode b_Turtles_draw 139 = .ok (.istore 9, 2) := by decide +kernel
theorem d_Turtles_draw_141 : decode b_Turtles_draw 141 = .ok (.aload 8, 2) := by decide +kernel
theorem d_Turtles_draw_143 : decode b_Turtles_draw 143 = .ok (.iload 4, 2) := by decide +kernel
theorem d_Turtles_draw_145 : decode b_Turtles_draw 145 = .ok (.iaload, 1) := by decide +kernel
theorem d_Turtles_draw_146 : decode b_Turtles_draw 146 = .ok (.iconst 1, 1) := by decide +kernel
theorem d_Turtles_draw_147 : decode b_Turtles_draw 147 = .ok (.iadd, 1) := by decide +kernel
theorem d_Turtles_draw_148 : decode b_Turtles_draw 148 = .ok (.i2l, 1) := by decide +kernel
theorem d_Turtles_draw_149 : decode b_Turtles_draw 149 = .ok (.aload 8, 2) := by decide +kernel
theorem d_Turtles_draw_151 : decode b_Turtles_draw 151 = .ok (.iload 4, 2) := by decide +kernel
theorem d_Turtles_draw_153 : decode b_Turtles_draw 153 = .ok (.iconst 1, 1) := by decide +kernel
theorem d_Turtles_draw_154 : decode b_Turtles_draw 154 = .ok (.iadd, 1) := by decide +kernel
theorem d_Turtles_draw_155 : decode b_Turtles_draw 155 = .ok (.iaload, 1) := by decide +kernel
theorem d_Turtles_draw_156 : decode b_Turtles_draw 156 = .ok (.i2l, 1) := by decide +kernel
theorem d_Turtles_draw_157 : decode b_Turtles_draw 157 = .ok (.invokestatic 84, 3) := by decide +kernel
theorem d_Turtles_draw_160 : decode b_Turtles_draw 160 = .ok (.ldc2_w 92, 3) := by decide +kernel
theorem d_Turtles_draw_163 : decode b_Turtles_draw 163 = .ok (.invokestatic 94, 3) := by decide +kernel
theorem d_Turtles_draw_166 : decode b_Turtles_draw 166 = .ok (.l2i, 1) := by decide +kernel
theorem d_Turtles_draw_167 : decode b_Turtles_draw 167 = .ok (.istore 10, 2) := by decide +kernel
theorem d_Turtles_draw_169 : decode b_Turtles_draw 169 = .ok (.iload 9, 2) := by decide +kernel
theorem d_Turtles_draw_171 : decode b_Turtles_draw 171 = .ok (.istore 11, 2) := by decide +kernel
theorem d_Turtles_draw_173 : decode b_Turtles_draw 173 = .ok (.iload 11, 2) := by decide +kernel
theorem d_Turtles_draw_175 : decode b_Turtles_draw 175 = .ok (.iload 10, 2) := by decide +kernel
theorem d_Turtles_draw_177 : decode b_Turtles_draw 177 = .ok (.if_icmp .gt 162, 3) := by decide +kernel
theorem d_Turtles_draw_180 : decode b_Turtles_draw 180 = .ok (.aload 7, 2) := by decide +kernel
theorem d_Turtles_draw_182 : decode b_Turtles_draw 182 = .ok (.iload 4, 2) := by decide +kernel
theorem d_Turtles_draw_184 : decode b_Turtles_draw 184 = .ok (.iaload, 1) := by decide +kernel
theorem d_Turtles_draw_185 : decode b_Turtles_draw 185 = .ok (.aload 7, 2) := by decide +kernel
theorem d_Turtles_draw_187 : decode b_Turtles_draw 187 = .ok (.iload 4, 2) := by decide +kernel
theorem d_Turtles_draw_189 : decode b_Turtles_draw 189 = .ok (.iconst 1, 1) := by decide +kernel
theorem d_Turtles_draw_190 : decode b_Turtles_draw 190 = .ok (.iadd, 1) := by decide +kernel
theorem d_Turtles_draw_191 : decode b_Turtles_draw 191 = .ok (.iaload, 1) := by decide +kernel
theorem d_Turtles_draw_192 : decode b_Turtles_draw 192 = .ok (.iload 11, 2) := by decide +kernel
theorem d_Turtles_draw_194 : decode b_Turtles_draw 194 = .ok (.invokestatic 97, 3) := by decide +kernel
theorem d_Turtles_draw_197 : decode b_Turtles_draw 197 = .ok (.ifCond .le 27, 3) := by decide +kernel
theorem d_Turtles_draw_200 : decode b_Turtles_draw 200 = .ok (.aload 7, 2) := by decide +kernel
theorem d_Turtles_draw_202 : decode b_Turtles_draw 202 = .ok (.iload 5, 2) := by decide +kernel
theorem d_Turtles_draw_204 : decode b_Turtles_draw 204 = .ok (.iaload, 1) := by decide +kernel
theorem d_Turtles_draw_205 : decode b_Turtles_draw 205 = .ok (.iconst 1, 1) := by decide +kernel
theorem d_Turtles_draw_206 : decode b_Turtles_draw 206 = .ok (.iadd, 1) := by decide +kernel
theorem d_Turtles_draw_207 : decode b_Turtles_draw 207 = .ok (.i2l, 1) := by decide +kernel
theorem d_Turtles_draw_208 : decode b_Turtles_draw 208 = .ok (.aload 7, 2) := by decide +kernel
theorem d_Turtles_draw_210 : decode b_Turtles_draw 210 = .ok (.iload 5, 2) := by decide +kernel
theorem d_Turtles_draw_212 : decode b_Turtles_draw 212 = .ok (.iconst 1, 1) := by decide +kernel
theorem d_Turtles_draw_213 : decode b_Turtles_draw 213 = .ok (.iadd, 1) := by decide +kernel
theorem d_Turtles_draw_214 : decode b_Turtles_draw 214 = .ok (.iaload, 1) := by decide +kernel
theorem d_Turtles_draw_215 : decode b_Turtles_draw 215 = .ok (.i2l, 1) := by decide +kernel
theorem d_Turtles_draw_216 : decode b_Turtles_draw 216 = .ok (.invokestatic 84, 3) := by decide +kernel
theorem d_Turtles_draw_219 : decode b_Turtles_draw 219 = .ok (.lstore 12, 2) := by decide +kernel
theorem d_Turtles_draw_221 : decode b_Turtles_draw 221 = .ok (.goto 62, 3) := by decide +kernel
theorem d_Turtles_draw_224 : decode b_Turtles_draw 224 = .ok (.aload 8, 2) := by decide +kernel
theorem d_Turtles_draw_226 : decode b_Turtles_draw 226 = .ok (.iload 4, 2) := by decide +kernel
theorem d_Turtles_draw_228 : decode b_Turtles_draw 228 = .ok (.iaload, 1) := by decide +kernel
theorem d_Turtles_draw_229 : decode b_Turtles_draw 229 = .ok (.aload 8, 2) := by decide +kernel
theorem d_Turtles_draw_231 : decode b_Turtles_draw 231 = .ok (.iload 4, 2) := by decide +kernel
theorem d_Turtles_draw_233 : decode b_Turtles_draw 233 = .ok (.iconst 1, 1) := by decide +kernel
theorem d_Turtles_draw_234 : decode b_Turtles_draw 234 = .ok (.iadd, 1) := by decide +kernel
theorem d_Turtles_draw_235 : decode b_Turtles_draw 235 = .ok (.iaload, 1) := by decide +kernel
theorem d_Turtles_draw_236 : decode b_Turtles_draw 236 = .ok (.iload 11, 2) := by decide +kernel
theorem d_Turtles_draw_238 : decode b_Turtles_draw 238 = .ok (.invokestatic 97, 3) := by decide +kernel
theorem d_Turtles_draw_241 : decode b_Turtles_draw 241 = .ok (.ifCond .ge 27, 3) := by decide +kernel
theorem d_Turtles_draw_244 : decode b_Turtles_draw 244 = .ok (.aload 8, 2) := by decide +kernel
theorem d_Turtles_draw_246 : decode b_Turtles_draw 246 = .ok (.iload 5, 2) := by decide +kernel
theorem d_Turtles_draw_248 : decode b_Turtles_draw 248 = .ok (.iaload, 1) := by decide +kernel
theorem d_Turtles_draw_249 : decode b_Turtles_draw 249 = .ok (.iconst 1, 1) := by decide +kernel
theorem d_Turtles_draw_250 : decode b_Turtles_draw 250 = .ok (.iadd, 1) := by decide +kernel
theorem d_Turtles_draw_251 : decode b_Turtles_draw 251 = .ok (.i2l, 1) := by decide +kernel
theorem d_Turtles_draw_252 : decode b_Turtles_draw 252 = .ok (.aload 8, 2) := by decide +kernel
theorem d_Turtles_draw_254 : decode b_Turtles_draw 254 = .ok (.iload 5, 2) := by decide +kernel
theorem d_Turtles_draw_256 : decode b_Turtles_draw 256 = .ok (.iconst 1, 1) := by decide +kernel
theorem d_Turtles_draw_257 : decode b_Turtles_draw 257 = .ok (.iadd, 1) := by decide +kernel
theorem d_Turtles_draw_258 : decode b_Turtles_draw 258 = .ok (.iaload, 1) := by decide +kernel
theorem d_Turtles_draw_259 : decode b_Turtles_draw 259 = .ok (.i2l, 1) := by decide +kernel
theorem d_Turtles_draw_260 : decode b_Turtles_draw 260 = .ok (.invokestatic 84, 3) := by decide +kernel
theorem d_Turtles_draw_263 : decode b_Turtles_draw 263 = .ok (.lstore 12, 2) := by decide +kernel
theorem d_Turtles_draw_265 : decode b_Turtles_draw 265 = .ok (.goto 18, 3) := by decide +kernel
theorem d_Turtles_draw_268 : decode b_Turtles_draw 268 = .ok (.aload_n 0, 1) := by decide +kernel
theorem d_Turtles_draw_269 : decode b_Turtles_draw 269 = .ok (.iload 4, 2) := by decide +kernel
theorem d_Turtles_draw_271 : decode b_Turtles_draw 271 = .ok (.getstatic 101, 3) := by decide +kernel
theorem d_Turtles_draw_274 : decode b_Turtles_draw 274 = .ok (.iload_n 1, 1) := by decide +kernel
theorem d_Turtles_draw_275 : decode b_Turtles_draw 275 = .ok (.iaload, 1) := by decide +kernel
theorem d_Turtles_draw_276 : decode b_Turtles_draw 276 = .ok (.iload 11, 2) := by decide +kernel
theorem d_Turtles_draw_278 : decode b_Turtles_draw 278 = .ok (.invokevirtual 104, 3) := by decide +kernel
theorem d_Turtles_draw_281 : decode b_Turtles_draw 281 = .ok (.lstore 12, 2) := by decide +kernel
theorem d_Turtles_draw_283 : decode b_Turtles_draw 283 = .ok (.lload 12, 2) := by decide +kernel
theorem d_Turtles_draw_285 : decode b_Turtles_draw 285 = .ok (.ldc2_w 87, 3) := by decide +kernel
theorem d_Turtles_draw_288 : decode b_Turtles_draw 288 = .ok (.lcmp, 1) := by decide +kernel
theorem d_Turtles_draw_289 : decode b_Turtles_draw 289 = .ok (.ifCond .lt 44, 3) := by decide +kernel
theorem d_Turtles_draw_292 : decode b_Turtles_draw 292 = .ok (.lload 12, 2) := by decide +kernel
theorem d_Turtles_draw_294 : decode b_Turtles_draw 294 = .ok (.ldc2_w 108, 3) := by decide +kernel
theorem d_Turtles_draw_297 : decode b_Turtles_draw 297 = .ok (.lcmp, 1) := by decide +kernel
theorem d_Turtles_draw_298 : decode b_Turtles_draw 298 = .ok (.ifCond .ge 35, 3) := by decide +kernel
theorem d_Turtles_draw_301 : decode b_Turtles_draw 301 = .ok (.lload 12, 2) := by decide +kernel
theorem d_Turtles_draw_303 : decode b_Turtles_draw 303 = .ok (.l2i, 1) := by decide +kernel
theorem d_Turtles_draw_304 : decode b_Turtles_draw 304 = .ok (.istore 14, 2) := by decide +kernel
theorem d_Turtles_draw_306 : decode b_Turtles_draw 306 = .ok (.aload_n 0, 1) := by decide +kernel
theorem d_Turtles_draw_307 : decode b_Turtles_draw 307 = .ok (.getfield 15, 3) := by decide +kernel
theorem d_Turtles_draw_310 : decode b_Turtles_draw 310 = .ok (.iload_n 3, 1) := by decide +kernel
theorem d_Turtles_draw_311 : decode b_Turtles_draw 311 = .ok (.ifCond .eq 13, 3) := by decide +kernel
theorem d_Turtles_draw_314 : decode b_Turtles_draw 314 = .ok (.iload 11, 2) := by decide +kernel
theorem d_Turtles_draw_316 : decode b_Turtles_draw 316 = .ok (.iload 14, 2) := by decide +kernel
theorem d_Turtles_draw_318 : decode b_Turtles_draw 318 = .ok (.invokestatic 110, 3) := by decide +kernel
theorem d_Turtles_draw_321 : decode b_Turtles_draw 321 = .ok (.goto 10, 3) := by decide +kernel
theorem d_Turtles_draw_324 : decode b_Turtles_draw 324 = .ok (.iload 14, 2) := by decide +kernel
theorem d_Turtles_draw_326 : decode b_Turtles_draw 326 = .ok (.iload 11, 2) := by decide +kernel
theorem d_Turtles_draw_328 : decode b_Turtles_draw 328 = .ok (.invokestatic 110, 3) := by decide +kernel
theorem d_Turtles_draw_331 : decode b_Turtles_draw 331 = .ok (.iload_n 2, 1) := by decide +kernel
theorem d_Turtles_draw_332 : decode b_Turtles_draw 332 = .ok (.iastore, 1) := by decide +kernel
theorem d_Turtles_draw_333 : decode b_Turtles_draw 333 = .ok (.iinc 11 1, 3) := by decide +kernel
theorem d_Turtles_draw_336 : decode b_Turtles_draw 336 = .ok (.goto (-163), 3) := by decide +kernel
theorem d_Turtles_draw_339 : decode b_Turtles_draw 339 = .ok (.return_, 1) := by decide +kernel
theorem hd_Turtles_floorHalf : y_Turtles_floorHalf.cls ≠ "java/lang/invoke/MethodHandle" ∧ y_Turtles_floorHalf.cls ≠ "java/lang/invoke/VarHandle" ∧ (parseMethodDescriptor y_Turtles_floorHalf.desc).map (fun d => d.parameters.length) = some 2 := by decide +kernel
theorem lk_Turtles_89 : Cond.methodLink "TurtleWorld$Turtles" 89 ⟨"java/lang/Math", "max", "(JJ)J"⟩ ∈ tw_T := tw_i6 46 (by decide +kernel) (by decide +kernel)
theorem hd_Math_max2 : y_Math_max2.cls ≠ "java/lang/invoke/MethodHandle" ∧ y_Math_max2.cls ≠ "java/lang/invoke/VarHandle" ∧ (parseMethodDescriptor y_Math_max2.desc).map (fun d => d.parameters.length) = some 2 := by decide +kernel
theorem st_Math_max2 : Cond.static ⟨"java/lang/Math", "max", "(JJ)J"⟩ ∈ tw_T := tw_i6 47 (by decide +kernel) (by decide +kernel)
theorem lk_Turtles_92 : Cond.constantLong "TurtleWorld$Turtles" 92 31 ∈ tw_T := tw_i6 49 (by decide +kernel) (by decide +kernel)
theorem lk_Turtles_94 : Cond.methodLink "TurtleWorld$Turtles" 94 ⟨"java/lang/Math", "min", "(JJ)J"⟩ ∈ tw_T := tw_i6 50 (by decide +kernel) (by decide +kernel)
theorem lk_Turtles_97 : Cond.methodLink "TurtleWorld$Turtles" 97 ⟨"TurtleWorld$Turtles", "sideOf", "(III)I"⟩ ∈ tw_T := tw_i6 51 (by decide +kernel) (by decide +kernel)
theorem hd_Turtles_sideOf : y_Turtles_sideOf.cls ≠ "java/lang/invoke/MethodHandle" ∧ y_Turtles_sideOf.cls ≠ "java/lang/invoke/VarHandle" ∧ (parseMethodDescriptor y_Turtles_sideOf.desc).map (fun d => d.parameters.length) = some 3 := by decide +kernel
theorem lk_Turtles_101 : Cond.fieldLink "TurtleWorld$Turtles" 101 "TurtleWorld$Turtles" "SLOPES" "[I" ∈ tw_T := tw_i6 57 (by decide +kernel) (by decide +kernel)
theorem lk_Turtles_104 : Cond.methodLink "TurtleWorld$Turtles" 104 ⟨"TurtleWorld$Turtles", "crossing", "(III)J"⟩ ∈ tw_T := tw_i6 59 (by decide +kernel) (by decide +kernel)
theorem hd_Turtles_crossing : y_Turtles_crossing.cls ≠ "java/lang/invoke/MethodHandle" ∧ y_Turtles_crossing.cls ≠ "java/lang/invoke/VarHandle" ∧ (parseMethodDescriptor y_Turtles_crossing.desc).map (fun d => d.parameters.length) = some 3 := by decide +kernel
theorem in_Turtles_crossing : Cond.instanceMethod ⟨"TurtleWorld$Turtles", "crossing", "(III)J"⟩ ∈ tw_T := tw_i6 61 (by decide +kernel) (by decide +kernel)
theorem sel_Turtles_crossing : Cond.selects "TurtleWorld$Turtles" ⟨"TurtleWorld$Turtles", "crossing", "(III)J"⟩ ⟨"TurtleWorld$Turtles", "crossing", "(III)J"⟩ ∈ tw_T := tw_inS 57 (by decide +kernel) (by decide +kernel)
def m_Reader_isNew_b2 (n : Nat) (g : Nat → Nat) (i : Nat → Int32) (a : Nat → Nat → Int32) : Nat → Int32 → Int32 → Option (Int32)
  | 0, _, _ => none
  | f + 1, v1, v2 => if ((i 33)) ≤ v2 then ob0 (m_Procedures_find n g i a v1) (fun r_3 => if ((0 : Int32)) ≤ r_3 then some 0 else some 1) else ck v2 200 (ob0 (m_Heap_sameWord n g i a (a 34 v2.toNatClampNeg) v1) (fun r_7 => if r_7 = ((0 : Int32)) then ob1 (v2 + 1 : Int32) (fun x_9 => m_Reader_isNew_b2 n g i a f v1 x_9) else some 0))
set_option maxHeartbeats 4000000 in
set_option maxRecDepth 100000 in
theorem lb_Reader_isNew_2 (l : Launch) (dC : Nat → ClassId) (dI : Nat → Nat → Nat) (cI : ClassId) (adK adV adA u o g : Nat → Nat) (n : Nat) {p : Program} {e : Env} {s : State} {m : MethodId} {args : Array Value} {below : List Frame} {meth : Method} {c : Code} {A : Nat → Prop} (hx : p.tables.exec = Jvm.exec) (hb : c.code = b_Reader_isNew) (hml : c.maxLocals = 3) (hown : s.vm.findClass R_Reader = some m.cls) (hts : ∀ w ∈ w_Reader_isNew, w.before args s = true) (hK : va_K (dC, dI) classes [(cI, .int)] s) (hE : tw_E adK adV adA A s s.heap) (hA : ∀ q : Nat, s.heap.size ≤ q → A q) (hr : meth.sig.returnType = (some .boolean)) (hlocks : meth.locks = false) {i : Nat → Int32} {a : Nat → Nat → Int32} {r2 : Int32} : ∀ (f : Nat) (v1 : Int32) (v2 : Int32), m_Reader_isNew_b2 n g i a f v1 v2 = some r2 → ∀ (H : Heap) (locs : List Loc) (ls : Array Slot), va_P (dC, dI) classes (TW cI u o i a g) H → va_S A s.heap H locs → lv_has ls 3 [(0, .ref ((u 7))), (1, .int v1), (2, .int v2)] → W p l e ({ frames := 2, cells := 0, slots := 0, locals := 48 } : Room) s m args below meth c H locs 0 0 (MQ below (va_Qi (xR r2) xT A) args s 0 0 A) (F0 m 2 ls []) := by
  have htt : ∀ w ∈ tw_T, w.before _ s = true := fun w h => hts w (List.mem_cons_of_mem _ h)
  intro f
  induction f with
  | zero =>
    intro v1 v2 hm
    rw [m_Reader_isNew_b2] at hm
    cases hm
  | succ f ih =>
    intro v1 v2 hm H locs ls hP hS hl
    rw [m_Reader_isNew_b2] at hm
    refine lv_iload_n hx hb d_Reader_isNew_2 rfl (lv_at hl 2 rfl) ?_
    refine lv_aload_n hx hb d_Reader_isNew_3 rfl (lv_at hl 0 rfl) ?_
    refine va_get (D := (dC, dI)) (ci := 7) (v := .int (i 33)) (C := R_Reader) (T := F_Reader) (N := 19) hx hb htt iw_Reader hown hK hP 7 xo_7 rfl 17 (Nat.le_of_ble_eq_true rfl) (htt _ lk_Reader_84) (fun _ h9 => h9) xg_7_17 d_Reader_isNew_4 ?_
    refine lv_icmp_ge (tgt := 35) hx hb d_Reader_isNew_7 (by decide) (fun c_1 => ?_) (fun c_1 => ?_)
    · replace hm := if_t c_1 hm
      refine lv_aload_n hx hb d_Reader_isNew_35 rfl (lv_at hl 0 rfl) ?_
      refine va_get (D := (dC, dI)) (ci := 7) (v := .ref ((u 4))) (C := R_Reader) (T := F_Reader) (N := 19) hx hb htt iw_Reader hown hK hP 7 xo_7 rfl 1 (Nat.le_of_ble_eq_true rfl) (htt _ lk_Reader_34) (fun _ h9 => h9) xg_7_1 d_Reader_isNew_36 ?_
      refine lv_iload_n hx hb d_Reader_isNew_39 rfl (lv_at hl 1 rfl) ?_
      obtain ⟨r_3, h_2, hm⟩ := ob0_some hm
      have hFc := x_free0 hS hA
      refine va_calli (va_runV (As := [.int v1]) (rest := []) ⟨hx, hb, hml, hown, hts⟩ (x_Procedures_find l dC dI cI adK adV adA u o g H.size n h_2) (cwV 1 hts (tw_GV tw_cons cw_Procedures_find lk_Reader_168 in_Procedures_find sel_Procedures_find ini_Procedures) rfl rfl rfl ⟨rfl, hd_Procedures_find⟩ ⟨Nat.le_of_ble_eq_true rfl, Nat.le_of_ble_eq_true rfl⟩) (xpVr hK hP hS hE hFc xo_4 rfl) rfl rfl hl.1 rfl (lv_room (Nat.le_of_ble_eq_true rfl)) d_Reader_isNew_40 ⟨Nat.le_of_ble_eq_true rfl, Nat.le_of_ble_eq_true rfl⟩) hS (fun q _ h => hFc q h) hFc (fun r9 u9 t9 H locs ht hvm e9 hB hz1 hk1 hS => ?_)
      have e9 : r_3 = r9 := e9
      subst e9
      replace hP := x_keep hP hk1
      clear hFc hk1 hz1 hvm hB ht
      refine lv_if_ge (tgt := 50) hx hb d_Reader_isNew_43 (by decide) (fun c_4 => ?_) (fun c_4 => ?_)
      · replace hm := if_t c_4 hm
        refine lv_iconst (v := 0) hx hb d_Reader_isNew_50 (by decide) ?_
        have e3 := re1 hm
        exact W.zret hx hb hr (by decide) (fun t9 ht hW => ⟨⟨_, (), rfl, e3.symm, trivial⟩, hS.F ht⟩) hS.2.2 d_Reader_isNew_51
      · replace hm := if_f c_4 hm
        refine lv_iconst (v := 1) hx hb d_Reader_isNew_46 (by decide) ?_
        refine lv_goto (tgt := 51) hx hb d_Reader_isNew_47 (by decide) ?_
        have e3 := re1 hm
        exact W.zret hx hb hr (by decide) (fun t9 ht hW => ⟨⟨_, (), rfl, e3.symm, trivial⟩, hS.F ht⟩) hS.2.2 d_Reader_isNew_51
    · replace hm := if_f c_1 hm
      refine lv_aload_n hx hb d_Reader_isNew_10 rfl (lv_at hl 0 rfl) ?_
      refine va_get (D := (dC, dI)) (ci := 7) (v := .ref ((u 1))) (C := R_Reader) (T := F_Reader) (N := 19) hx hb htt iw_Reader hown hK hP 7 xo_7 rfl 0 (Nat.le_of_ble_eq_true rfl) (htt _ lk_Reader_30) (fun _ h9 => h9) xg_7_0 d_Reader_isNew_11 ?_
      refine lv_aload_n hx hb d_Reader_isNew_14 rfl (lv_at hl 0 rfl) ?_
      refine va_get (D := (dC, dI)) (ci := 7) (v := .ref ((u 44))) (C := R_Reader) (T := F_Reader) (N := 19) hx hb htt iw_Reader hown hK hP 7 xo_7 rfl 14 (Nat.le_of_ble_eq_true rfl) (htt _ lk_Reader_21) (fun _ h9 => h9) xg_7_14 d_Reader_isNew_15 ?_
      refine lv_iload_n hx hb d_Reader_isNew_18 rfl (lv_at hl 2 rfl) ?_
      obtain ⟨h_5, hm⟩ := ck_some hm
      refine va_iald hx hb hK hP 46 0 twA_34 rfl h_5 d_Reader_isNew_19 ?_
      refine lv_iload_n hx hb d_Reader_isNew_20 rfl (lv_at hl 1 rfl) ?_
      obtain ⟨r_7, h_6, hm⟩ := ob0_some hm
      have hFc := x_free0 hS hA
      refine va_calli (va_runV (As := [.int (a 34 v2.toNatClampNeg), .int v1]) (rest := []) ⟨hx, hb, hml, hown, hts⟩ (x_Heap_sameWord l dC dI cI adK adV adA u o g H.size n h_6) (cwV 2 hts (tw_GV tw_cons cw_Heap_sameWord lk_Reader_164 in_Heap_sameWord sel_Heap_sameWord ini_Heap) rfl rfl rfl ⟨rfl, hd_Heap_sameWord⟩ ⟨Nat.le_of_ble_eq_true rfl, Nat.le_of_ble_eq_true rfl⟩) (xpVr hK hP hS hE hFc xo_1 rfl) rfl rfl hl.1 rfl (lv_room (Nat.le_of_ble_eq_true rfl)) d_Reader_isNew_21 ⟨Nat.le_of_ble_eq_true rfl, Nat.le_of_ble_eq_true rfl⟩) hS (fun q _ h => hFc q h) hFc (fun r9 u9 t9 H locs ht hvm e9 hB hz1 hk1 hS => ?_)
      have e9 : r_7 = r9 := e9
      subst e9
      replace hP := x_keep hP hk1
      clear hFc hk1 hz1 hvm hB ht
      refine lv_if_eq (tgt := 29) hx hb d_Reader_isNew_24 (by decide) (fun c_8 => ?_) (fun c_8 => ?_)
      · replace hm := if_t c_8 hm
        obtain ⟨x_9, ex_9⟩ : ∃ y9 : Int32, y9 = v2 + 1 := ⟨_, rfl⟩
        replace hm := ob1_at ex_9 hm
        refine lv_iinc (v := x_9) (lv' := [(2, .int x_9), (0, .ref ((u 7))), (1, .int v1)]) hx hb d_Reader_isNew_29 hl (k := 2) rfl (by rw [ex_9]; rfl) (by decide) rfl (fun ls hl => ?_)
        refine lv_goto (tgt := 2) hx hb d_Reader_isNew_32 (by decide) ?_
        exact ih _ _ hm _ _ _ hP hS (lv_sub hl [1, 2, 0] rfl)
      · replace hm := if_f c_8 hm
        refine lv_iconst (v := 0) hx hb d_Reader_isNew_27 (by decide) ?_
        have e3 := re1 hm
        exact W.zret hx hb hr (by decide) (fun t9 ht hW => ⟨⟨_, (), rfl, e3.symm, trivial⟩, hS.F ht⟩) hS.2.2 d_Reader_isNew_28
def m_Reader_isNew (n : Nat) (g : Nat → Nat) (i : Nat → Int32) (a : Nat → Nat → Int32) (v1 : Int32) : Option (Int32) := m_Reader_isNew_b2 n g i a n v1 (0 : Int32)
set_option maxHeartbeats 4000000 in
set_option maxRecDepth 100000 in
theorem x_Reader_isNew (l : Launch) (dC : Nat → ClassId) (dI : Nat → Nat → Nat) (cI : ClassId) (adK adV adA u o g : Nat → Nat) (sz : Nat) (n : Nat) {i : Nat → Int32} {a : Nat → Nat → Int32} {v1 : Int32} {r2 : Int32} (hm : m_Reader_isNew n g i a v1 = some r2) : Met l y_Reader_isNew w_Reader_isNew ({ frames := 2, cells := 0, slots := 0, locals := 48 } : Room) (va_Pc [.ref ((u 7)), .int v1] (xEr dC dI cI adK adV adA u o g i a sz)) (va_Qi (xR r2) xT (xN sz)) 0 0 (xN sz) := by
  refine Met.ofW (cc := b_Reader_isNew) (maxL := 3) (ret := (some .boolean)) (by decide) rfl ?_
  intro p e s m args below meth c s₁ B hml hv
  obtain ⟨rfl, hsz, hP, hK, hE⟩ := hv
  have hx := B.exec
  have hb := B.bytes
  have hr := B.returns
  have hts := atoms_spec (ws := w_Reader_isNew) B.pre
  have htt : ∀ w ∈ tw_T, w.before _ s = true := fun w h => hts w (List.mem_cons_of_mem _ h)
  have hown : s.vm.findClass R_Reader = some m.cls := findClass_of_methodNamed B.named
  have hlocks := B.notSynchronized
  subst hsz
  generalize hAe : xN s.heap.size = A at hE ⊢
  have hA : ∀ q : Nat, s.heap.size ≤ q → A q := fun q h => by rw [← hAe]; exact Or.inr h
  have hS : va_S A s.heap s.heap [] := va_S.rf
  have hl := lv_entry ([.ref ((u 7)), .int v1]) (n := 3) (Nat.le_of_ble_eq_true rfl)
  rw [lg_entry_eq]
  generalize (lg_sl ([.ref ((u 7)), .int v1]) ++ List.replicate (3 - (lg_sl ([.ref ((u 7)), .int v1])).length) Slot.unset).toArray = ls at hl ⊢
  have hl : lv_has ls 3 [(0, .ref ((u 7))), (1, .int v1)] := hl
  rw [m_Reader_isNew] at hm
  refine lv_iconst (v := 0) hx hb d_Reader_isNew_0 (by decide) ?_
  refine lv_istore_n (lv' := [(2, .int 0), (0, .ref ((u 7))), (1, .int v1)]) hx hb d_Reader_isNew_1 rfl hl (by decide) rfl (fun ls hl => ?_)
  exact lb_Reader_isNew_2 l dC dI cI adK adV adA u o g n hx hb hml hown hts hK hE hA hr hlocks n _ _ hm _ _ _ hP hS (lv_sub hl [1, 2, 0] rfl)

def m_Procedures_tell_b52 (n : Nat) (g : Nat → Nat) (i : Nat → Int32) (a : Nat → Nat → Int32) (v2 : Int32) (v3 : Int32) (v4 : Int32) : Option ((Nat → Int32) × (Nat → Nat → Int32) × Int32) := ck v4 40 (ob1 (sv a 16 v4.toNatClampNeg v2 : Nat → Nat → Int32) (fun a_2 => ck v4 40 (ob1 (sv a_2 17 v4.toNatClampNeg v3 : Nat → Nat → Int32) (fun a_4 => some (i, a_4, 1)))))
set_option maxHeartbeats 4000000 in
set_option maxRecDepth 100000 in
theorem lb_Procedures_tell_52 (l : Launch) (dC : Nat → ClassId) (dI : Nat → Nat → Nat) (cI : ClassId) (adK adV adA u o g : Nat → Nat) (n : Nat) {p : Program} {e : Env} {s : State} {m : MethodId} {args : Array Value} {below : List Frame} {meth : Method} {c : Code} {A : Nat → Prop} (hx : p.tables.exec = Jvm.exec) (hb : c.code = b_Procedures_tell) (hml : c.maxLocals = 5) (hown : s.vm.findClass R_Procedures = some m.cls) (hts : ∀ w ∈ w_Procedures_tell, w.before args s = true) (hK : va_K (dC, dI) classes [(cI, .int)] s) (hE : tw_E adK adV adA A s s.heap) (hA : ∀ q : Nat, s.heap.size ≤ q → A q) (hr : meth.sig.returnType = (some .boolean)) (hlocks : meth.locks = false) {i2 : Nat → Int32} {a2 : Nat → Nat → Int32} {r2 : Int32} (i : Nat → Int32) (a : Nat → Nat → Int32) (v2 : Int32) (v3 : Int32) (v4 : Int32) (hm : m_Procedures_tell_b52 n g i a v2 v3 v4 = some (i2, a2, r2)) : ∀ (H : Heap) (locs : List Loc) (ls : Array Slot), va_P (dC, dI) classes (TW cI u o i a g) H → va_D A (TW cI u o i a g) → va_S A s.heap H locs → lv_has ls 5 [(0, .ref ((u 4))), (2, .int v2), (3, .int v3), (4, .int v4)] → W p l e ({ frames := 2, cells := 0, slots := 0, locals := 48 } : Room) s m args below meth c H locs 0 0 (MQ below (va_Qi (xR r2) (xB dC dI cI u o g i2 a2 A) A) args s 0 0 A) (F0 m 52 ls []) := by
  have htt : ∀ w ∈ tw_T, w.before _ s = true := fun w h => hts w (List.mem_cons_of_mem _ h)
  intro H locs ls hP hD hS hl
  rw [m_Procedures_tell_b52] at hm
  refine lv_aload_n hx hb d_Procedures_tell_52 rfl (lv_at hl 0 rfl) ?_
  refine va_get (D := (dC, dI)) (ci := 4) (v := .ref ((u 26))) (C := R_Procedures) (T := F_Procedures) (N := 8) hx hb htt iw_Procedures hown hK hP 4 xo_4 rfl 2 (Nat.le_of_ble_eq_true rfl) (htt _ lk_Procedures_15) (fun _ h9 => h9) xg_4_2 d_Procedures_tell_53 ?_
  refine lv_iload hx hb d_Procedures_tell_56 (lv_at hl 3 rfl) ?_
  refine lv_iload_n hx hb d_Procedures_tell_58 rfl (lv_at hl 1 rfl) ?_
  obtain ⟨h_1, hm⟩ := ck_some hm
  refine va_iast hx hb hK hP hD hS 28 0 twA_16 rfl h_1 d_Procedures_tell_59 (fun H locs hP hD hS => ?_)
  obtain ⟨a_2, ea_2⟩ : ∃ y9 : Nat → Nat → Int32, y9 = sv a 16 v4.toNatClampNeg v2 := ⟨_, rfl⟩
  replace hm := ob1_at ea_2 hm
  obtain ⟨hP, hD⟩ := xv_16 ea_2 hP hD
  refine lv_aload_n hx hb d_Procedures_tell_60 rfl (lv_at hl 0 rfl) ?_
  refine va_get (D := (dC, dI)) (ci := 4) (v := .ref ((u 27))) (C := R_Procedures) (T := F_Procedures) (N := 8) hx hb htt iw_Procedures hown hK hP 4 xo_4 rfl 3 (Nat.le_of_ble_eq_true rfl) (htt _ lk_Procedures_18) (fun _ h9 => h9) xg_4_3 d_Procedures_tell_61 ?_
  refine lv_iload hx hb d_Procedures_tell_64 (lv_at hl 3 rfl) ?_
  refine lv_iload_n hx hb d_Procedures_tell_66 rfl (lv_at hl 2 rfl) ?_
  obtain ⟨h_3, hm⟩ := ck_some hm
  refine va_iast hx hb hK hP hD hS 29 0 twA_17 rfl h_3 d_Procedures_tell_67 (fun H locs hP hD hS => ?_)
  obtain ⟨a_4, ea_4⟩ : ∃ y9 : Nat → Nat → Int32, y9 = sv a_2 17 v4.toNatClampNeg v3 := ⟨_, rfl⟩
  replace hm := ob1_at ea_4 hm
  obtain ⟨hP, hD⟩ := xv_17 ea_4 hP hD
  refine lv_iconst (v := 1) hx hb d_Procedures_tell_68 (by decide) ?_
  obtain ⟨e1i, e1a, e3⟩ := re3 hm
  obtain ⟨hP, hD⟩ := x_eq e1i e1a hP hD
  exact W.zret hx hb hr (by decide) (fun t9 ht hW => ⟨⟨_, (), rfl, e3.symm, by rw [ht]; exact hP, hD⟩, hS.F ht⟩) hS.2.2 d_Procedures_tell_69
def m_Procedures_tell_b23 (n : Nat) (g : Nat → Nat) (i : Nat → Int32) (a : Nat → Nat → Int32) (v1 : Int32) (v2 : Int32) (v3 : Int32) (v4 : Int32) : Option ((Nat → Int32) × (Nat → Nat → Int32) × Int32) := if ((0 : Int32)) ≤ v4 then m_Procedures_tell_b52 n g i a v2 v3 v4 else ob1 (i 15 : Int32) (fun x_2 => ck x_2 40 (ob1 (sv a 15 x_2.toNatClampNeg v1 : Nat → Nat → Int32) (fun a_4 => ob1 ((i 15) + 1 : Int32) (fun x_5 => ob1 (upd i 15 x_5 : Nat → Int32) (fun i_6 => m_Procedures_tell_b52 n g i_6 a_4 v2 v3 x_2)))))
set_option maxHeartbeats 4000000 in
set_option maxRecDepth 100000 in
theorem lb_Procedures_tell_23 (l : Launch) (dC : Nat → ClassId) (dI : Nat → Nat → Nat) (cI : ClassId) (adK adV adA u o g : Nat → Nat) (n : Nat) {p : Program} {e : Env} {s : State} {m : MethodId} {args : Array Value} {below : List Frame} {meth : Method} {c : Code} {A : Nat → Prop} (hx : p.tables.exec = Jvm.exec) (hb : c.code = b_Procedures_tell) (hml : c.maxLocals = 5) (hown : s.vm.findClass R_Procedures = some m.cls) (hts : ∀ w ∈ w_Procedures_tell, w.before args s = true) (hK : va_K (dC, dI) classes [(cI, .int)] s) (hE : tw_E adK adV adA A s s.heap) (hA : ∀ q : Nat, s.heap.size ≤ q → A q) (hr : meth.sig.returnType = (some .boolean)) (hlocks : meth.locks = false) {i2 : Nat → Int32} {a2 : Nat → Nat → Int32} {r2 : Int32} (i : Nat → Int32) (a : Nat → Nat → Int32) (v1 : Int32) (v2 : Int32) (v3 : Int32) (v4 : Int32) (hm : m_Procedures_tell_b23 n g i a v1 v2 v3 v4 = some (i2, a2, r2)) : ∀ (H : Heap) (locs : List Loc) (ls : Array Slot), va_P (dC, dI) classes (TW cI u o i a g) H → va_D A (TW cI u o i a g) → va_S A s.heap H locs → lv_has ls 5 [(0, .ref ((u 4))), (1, .int v1), (2, .int v2), (3, .int v3), (4, .int v4)] → W p l e ({ frames := 2, cells := 0, slots := 0, locals := 48 } : Room) s m args below meth c H locs 0 0 (MQ below (va_Qi (xR r2) (xB dC dI cI u o g i2 a2 A) A) args s 0 0 A) (F0 m 23 ls []) := by
  have htt : ∀ w ∈ tw_T, w.before _ s = true := fun w h => hts w (List.mem_cons_of_mem _ h)
  intro H locs ls hP hD hS hl
  rw [m_Procedures_tell_b23] at hm
  refine lv_iload hx hb d_Procedures_tell_23 (lv_at hl 4 rfl) ?_
  refine lv_if_ge (tgt := 52) hx hb d_Procedures_tell_25 (by decide) (fun c_1 => ?_) (fun c_1 => ?_)
  · replace hm := if_t c_1 hm
    exact lb_Procedures_tell_52 l dC dI cI adK adV adA u o g n hx hb hml hown hts hK hE hA hr hlocks _ _ _ _ _ hm _ _ _ hP hD hS (lv_sub hl [0, 2, 3, 4] rfl)
  · replace hm := if_f c_1 hm
    refine lv_aload_n hx hb d_Procedures_tell_28 rfl (lv_at hl 0 rfl) ?_
    refine va_get (D := (dC, dI)) (ci := 4) (v := .int (i 15)) (C := R_Procedures) (T := F_Procedures) (N := 8) hx hb htt iw_Procedures hown hK hP 4 xo_4 rfl 4 (Nat.le_of_ble_eq_true rfl) (htt _ lk_Procedures_31) (fun _ h9 => h9) xg_4_4 d_Procedures_tell_29 ?_
    refine lv_topi (fun x_2 ex_2 => ?_)
    replace hm := ob1_at ex_2 hm
    refine lv_istore (lv' := [(4, .int x_2), (0, .ref ((u 4))), (1, .int v1), (2, .int v2), (3, .int v3)]) hx hb d_Procedures_tell_32 hl (by decide) rfl (fun ls hl => ?_)
    refine lv_aload_n hx hb d_Procedures_tell_34 rfl (lv_at hl 1 rfl) ?_
    refine va_get (D := (dC, dI)) (ci := 4) (v := .ref ((u 25))) (C := R_Procedures) (T := F_Procedures) (N := 8) hx hb htt iw_Procedures hown hK hP 4 xo_4 rfl 1 (Nat.le_of_ble_eq_true rfl) (htt _ lk_Procedures_11) (fun _ h9 => h9) xg_4_1 d_Procedures_tell_35 ?_
    refine lv_iload hx hb d_Procedures_tell_38 (lv_at hl 0 rfl) ?_
    refine lv_iload_n hx hb d_Procedures_tell_40 rfl (lv_at hl 2 rfl) ?_
    obtain ⟨h_3, hm⟩ := ck_some hm
    refine va_iast hx hb hK hP hD hS 27 0 twA_15 rfl h_3 d_Procedures_tell_41 (fun H locs hP hD hS => ?_)
    obtain ⟨a_4, ea_4⟩ : ∃ y9 : Nat → Nat → Int32, y9 = sv a 15 x_2.toNatClampNeg v1 := ⟨_, rfl⟩
    replace hm := ob1_at ea_4 hm
    obtain ⟨hP, hD⟩ := xv_15 ea_4 hP hD
    refine lv_aload_n hx hb d_Procedures_tell_42 rfl (lv_at hl 1 rfl) ?_
    refine lv_dup hx hb d_Procedures_tell_43 rfl ?_
    refine va_get (D := (dC, dI)) (ci := 4) (v := .int (i 15)) (C := R_Procedures) (T := F_Procedures) (N := 8) hx hb htt iw_Procedures hown hK hP 4 xo_4 rfl 4 (Nat.le_of_ble_eq_true rfl) (htt _ lk_Procedures_31) (fun _ h9 => h9) xg_4_4 d_Procedures_tell_44 ?_
    refine lv_iconst (v := 1) hx hb d_Procedures_tell_47 (by decide) ?_
    refine lv_iadd hx hb d_Procedures_tell_48 ?_
    refine lv_topi (fun x_5 ex_5 => ?_)
    replace hm := ob1_at ex_5 hm
    refine va_put (D := (dC, dI)) (ci := 4) (v := .int x_5) (ty := .int) (C := R_Procedures) (T := F_Procedures) (N := 8) hx hb htt iw_Procedures t_Procedures t_Procedures_ok n_Procedures hown hK hP hD hS 4 xo_4 rfl 4 (Nat.le_of_ble_eq_true rfl) (htt _ lk_Procedures_31) (fun _ h9 => h9) rfl (by decide +kernel) rfl rfl xl_4_4 d_Procedures_tell_49 (fun H locs hP hD hS => ?_)
    obtain ⟨i_6, ei_6⟩ : ∃ y9 : Nat → Int32, y9 = upd i 15 x_5 := ⟨_, rfl⟩
    replace hm := ob1_at ei_6 hm
    obtain ⟨hP, hD⟩ := xw_15 ei_6 hP hD
    exact lb_Procedures_tell_52 l dC dI cI adK adV adA u o g n hx hb hml hown hts hK hE hA hr hlocks _ _ _ _ _ hm _ _ _ hP hD hS (lv_sub hl [1, 3, 4, 0] rfl)
def m_Procedures_tell (n : Nat) (g : Nat → Nat) (i : Nat → Int32) (a : Nat → Nat → Int32) (v1 : Int32) (v2 : Int32) (v3 : Int32) : Option ((Nat → Int32) × (Nat → Nat → Int32) × Int32) := ob0 (m_Procedures_find n g i a v1) (fun r_2 => if ((0 : Int32)) ≤ r_2 then m_Procedures_tell_b23 n g i a v1 v2 v3 r_2 else if ((i 15)) < ((40 : Int32)) then m_Procedures_tell_b23 n g i a v1 v2 v3 r_2 else some (i, a, 0))
set_option maxHeartbeats 4000000 in
set_option maxRecDepth 100000 in
theorem x_Procedures_tell (l : Launch) (dC : Nat → ClassId) (dI : Nat → Nat → Nat) (cI : ClassId) (adK adV adA u o g : Nat → Nat) (sz : Nat) (n : Nat) {i : Nat → Int32} {a : Nat → Nat → Int32} {v1 : Int32} {v2 : Int32} {v3 : Int32} {i2 : Nat → Int32} {a2 : Nat → Nat → Int32} {r2 : Int32} (hm : m_Procedures_tell n g i a v1 v2 v3 = some (i2, a2, r2)) : Met l y_Procedures_tell w_Procedures_tell ({ frames := 2, cells := 0, slots := 0, locals := 48 } : Room) (va_Pc [.ref ((u 4)), .int v1, .int v2, .int v3] (xE dC dI cI adK adV adA u o g i a sz)) (va_Qi (xR r2) (xB dC dI cI u o g i2 a2 (va_A (TW cI u o i a g) sz)) (va_A (TW cI u o i a g) sz)) 0 0 ((va_A (TW cI u o i a g) sz)) := by
  refine Met.ofW (cc := b_Procedures_tell) (maxL := 5) (ret := (some .boolean)) (by decide) rfl ?_
  intro p e s m args below meth c s₁ B hml hv
  obtain ⟨rfl, hsz, hP, hK, hE, hD0⟩ := hv
  have hx := B.exec
  have hb := B.bytes
  have hr := B.returns
  have hts := atoms_spec (ws := w_Procedures_tell) B.pre
  have htt : ∀ w ∈ tw_T, w.before _ s = true := fun w h => hts w (List.mem_cons_of_mem _ h)
  have hown : s.vm.findClass R_Procedures = some m.cls := findClass_of_methodNamed B.named
  have hlocks := B.notSynchronized
  subst hsz
  have hD := hD0.self (sz := s.heap.size)
  generalize hAe : (va_A (TW cI u o i a g) s.heap.size) = A at hD hE ⊢
  have hA : ∀ q : Nat, s.heap.size ≤ q → A q := fun q h => by rw [← hAe]; exact Or.inr h
  have hS : va_S A s.heap s.heap [] := va_S.rf
  have hl := lv_entry ([.ref ((u 4)), .int v1, .int v2, .int v3]) (n := 5) (Nat.le_of_ble_eq_true rfl)
  rw [lg_entry_eq]
  generalize (lg_sl ([.ref ((u 4)), .int v1, .int v2, .int v3]) ++ List.replicate (5 - (lg_sl ([.ref ((u 4)), .int v1, .int v2, .int v3])).length) Slot.unset).toArray = ls at hl ⊢
  have hl : lv_has ls 5 [(0, .ref ((u 4))), (1, .int v1), (2, .int v2), (3, .int v3)] := hl
  rw [m_Procedures_tell] at hm
  refine lv_aload_n hx hb d_Procedures_tell_0 rfl (lv_at hl 0 rfl) ?_
  refine lv_iload_n hx hb d_Procedures_tell_1 rfl (lv_at hl 1 rfl) ?_
  obtain ⟨r_2, h_1, hm⟩ := ob0_some hm
  have hFc := x_free0 hS hA
  refine va_calli (va_runV (As := [.int v1]) (rest := []) ⟨hx, hb, hml, hown, hts⟩ (x_Procedures_find l dC dI cI adK adV adA u o g s.heap.size n h_1) (cwV 1 hts (tw_GV tw_cons cw_Procedures_find lk_Procedures_41 in_Procedures_find sel_Procedures_find ini_Procedures) rfl rfl rfl ⟨rfl, hd_Procedures_find⟩ ⟨Nat.le_of_ble_eq_true rfl, Nat.le_of_ble_eq_true rfl⟩) (xpVr hK hP hS hE hFc xo_4 rfl) rfl rfl hl.1 rfl (lv_room (Nat.le_of_ble_eq_true rfl)) d_Procedures_tell_2 ⟨Nat.le_of_ble_eq_true rfl, Nat.le_of_ble_eq_true rfl⟩) hS (fun q _ h => hFc q h) hFc (fun r9 u9 t9 H locs ht hvm e9 hB hz1 hk1 hS => ?_)
  have e9 : r_2 = r9 := e9
  subst e9
  replace hP := x_keep hP hk1
  clear hFc hk1 hz1 hvm hB ht
  refine lv_istore (lv' := [(4, .int r_2), (0, .ref ((u 4))), (1, .int v1), (2, .int v2), (3, .int v3)]) hx hb d_Procedures_tell_5 hl (by decide) rfl (fun ls hl => ?_)
  refine lv_iload hx hb d_Procedures_tell_7 (lv_at hl 0 rfl) ?_
  refine lv_if_ge (tgt := 23) hx hb d_Procedures_tell_9 (by decide) (fun c_3 => ?_) (fun c_3 => ?_)
  · replace hm := if_t c_3 hm
    exact lb_Procedures_tell_23 l dC dI cI adK adV adA u o g n hx hb hml hown hts hK hE hA hr hlocks _ _ _ _ _ _ hm _ _ _ hP hD hS (lv_sub hl [1, 2, 3, 4, 0] rfl)
  · replace hm := if_f c_3 hm
    refine lv_aload_n hx hb d_Procedures_tell_12 rfl (lv_at hl 1 rfl) ?_
    refine va_get (D := (dC, dI)) (ci := 4) (v := .int (i 15)) (C := R_Procedures) (T := F_Procedures) (N := 8) hx hb htt iw_Procedures hown hK hP 4 xo_4 rfl 4 (Nat.le_of_ble_eq_true rfl) (htt _ lk_Procedures_31) (fun _ h9 => h9) xg_4_4 d_Procedures_tell_13 ?_
    refine lv_bipush (v := 40) hx hb d_Procedures_tell_16 (by decide) ?_
    refine lv_icmp_lt (tgt := 23) hx hb d_Procedures_tell_18 (by decide) (fun c_4 => ?_) (fun c_4 => ?_)
    · replace hm := if_t c_4 hm
      exact lb_Procedures_tell_23 l dC dI cI adK adV adA u o g n hx hb hml hown hts hK hE hA hr hlocks _ _ _ _ _ _ hm _ _ _ hP hD hS (lv_sub hl [1, 2, 3, 4, 0] rfl)
    · replace hm := if_f c_4 hm
      refine lv_iconst (v := 0) hx hb d_Procedures_tell_21 (by decide) ?_
      obtain ⟨e1i, e1a, e3⟩ := re3 hm
      obtain ⟨hP, hD⟩ := x_eq e1i e1a hP hD
      exact W.zret hx hb hr (by decide) (fun t9 ht hW => ⟨⟨_, (), rfl, e3.symm, by rw [ht]; exact hP, hD⟩, hS.F ht⟩) hS.2.2 d_Procedures_tell_22

def m_Lexicon_hashOf_a1_b8 (n : Nat) (g : Nat → Nat) (i : Nat → Int32) (a : Nat → Nat → Int32) : Nat → Int32 → Int32 → Option (Int32)
  | 0, _, _ => none
  | f + 1, v2, v3 => if ((nI (g 1))) ≤ v3 then some v2 else ck v3 (g 1) (if ((a 1 v3.toNatClampNeg)) = ((0 : Int32)) then some v2 else ck v3 (g 1) (ob1 ((31 * v2) + (a 1 v3.toNatClampNeg) : Int32) (fun x_5 => ob1 (v3 + 1 : Int32) (fun x_6 => m_Lexicon_hashOf_a1_b8 n g i a f x_5 x_6))))
set_option maxHeartbeats 4000000 in
set_option maxRecDepth 100000 in
theorem lb_Lexicon_hashOf_a1_8 (l : Launch) (dC : Nat → ClassId) (dI : Nat → Nat → Nat) (cI : ClassId) (adK adV adA u o g : Nat → Nat) (n : Nat) {p : Program} {e : Env} {s : State} {m : MethodId} {args : Array Value} {below : List Frame} {meth : Method} {c : Code} {A : Nat → Prop} (hx : p.tables.exec = Jvm.exec) (hb : c.code = b_Lexicon_hashOf) (hml : c.maxLocals = 4) (hown : s.vm.findClass R_Lexicon = some m.cls) (hts : ∀ w ∈ w_Lexicon_hashOf, w.before args s = true) (hK : va_K (dC, dI) classes [(cI, .int)] s) (hE : tw_E adK adV adA A s s.heap) (hA : ∀ q : Nat, s.heap.size ≤ q → A q) (hr : meth.sig.returnType = (some .int)) (hlocks : meth.locks = false) {i : Nat → Int32} {a : Nat → Nat → Int32} {r2 : Int32} : ∀ (f : Nat) (v2 : Int32) (v3 : Int32), m_Lexicon_hashOf_a1_b8 n g i a f v2 v3 = some r2 → ∀ (H : Heap) (locs : List Loc) (ls : Array Slot), va_P (dC, dI) classes (TW cI u o i a g) H → va_S A s.heap H locs → lv_has ls 4 [(0, .ref ((o 1))), (2, .int v2), (3, .int v3)] → W p l e ({ frames := 1, cells := 0, slots := 0, locals := 21 } : Room) s m args below meth c H locs 0 0 (MQ below (va_Qi (xR r2) xT A) args s 0 0 A) (F0 m 8 ls []) := by
  have htt : ∀ w ∈ tw_T, w.before _ s = true := fun w h => hts w (List.mem_cons_of_mem _ h)
  intro f
  induction f with
  | zero =>
    intro v2 v3 hm
    rw [m_Lexicon_hashOf_a1_b8] at hm
    cases hm
  | succ f ih =>
    intro v2 v3 hm H locs ls hP hS hl
    rw [m_Lexicon_hashOf_a1_b8] at hm
    refine lv_iload_n hx hb d_Lexicon_hashOf_8 rfl (lv_at hl 2 rfl) ?_
    refine lv_aload_n hx hb d_Lexicon_hashOf_9 rfl (lv_at hl 0 rfl) ?_
    refine va_alen (v := nI (g 1)) hx hb hK hP 13 0 twA_1 rfl rfl d_Lexicon_hashOf_10 ?_
    refine lv_icmp_ge (tgt := 35) hx hb d_Lexicon_hashOf_11 (by decide) (fun c_1 => ?_) (fun c_1 => ?_)
    · replace hm := if_t c_1 hm
      refine lv_iload_n hx hb d_Lexicon_hashOf_35 rfl (lv_at hl 1 rfl) ?_
      have e3 := re1 hm
      exact W.iret hx hb hr (fun t9 ht hW => ⟨⟨_, (), rfl, e3.symm, trivial⟩, hS.F ht⟩) hS.2.2 d_Lexicon_hashOf_36
    · replace hm := if_f c_1 hm
      refine lv_aload_n hx hb d_Lexicon_hashOf_14 rfl (lv_at hl 0 rfl) ?_
      refine lv_iload_n hx hb d_Lexicon_hashOf_15 rfl (lv_at hl 2 rfl) ?_
      obtain ⟨h_2, hm⟩ := ck_some hm
      refine va_iald hx hb hK hP 13 0 twA_1 rfl h_2 d_Lexicon_hashOf_16 ?_
      refine lv_if_eq (tgt := 35) hx hb d_Lexicon_hashOf_17 (by decide) (fun c_3 => ?_) (fun c_3 => ?_)
      · replace hm := if_t c_3 hm
        refine lv_iload_n hx hb d_Lexicon_hashOf_35 rfl (lv_at hl 1 rfl) ?_
        have e3 := re1 hm
        exact W.iret hx hb hr (fun t9 ht hW => ⟨⟨_, (), rfl, e3.symm, trivial⟩, hS.F ht⟩) hS.2.2 d_Lexicon_hashOf_36
      · replace hm := if_f c_3 hm
        refine lv_bipush (v := 31) hx hb d_Lexicon_hashOf_20 (by decide) ?_
        refine lv_iload_n hx hb d_Lexicon_hashOf_22 rfl (lv_at hl 1 rfl) ?_
        refine lv_imul hx hb d_Lexicon_hashOf_23 ?_
        refine lv_aload_n hx hb d_Lexicon_hashOf_24 rfl (lv_at hl 0 rfl) ?_
        refine lv_iload_n hx hb d_Lexicon_hashOf_25 rfl (lv_at hl 2 rfl) ?_
        obtain ⟨h_4, hm⟩ := ck_some hm
        refine va_iald hx hb hK hP 13 0 twA_1 rfl h_4 d_Lexicon_hashOf_26 ?_
        refine lv_iadd hx hb d_Lexicon_hashOf_27 ?_
        refine lv_topi (fun x_5 ex_5 => ?_)
        replace hm := ob1_at ex_5 hm
        refine lv_istore_n (lv' := [(2, .int x_5), (0, .ref ((o 1))), (3, .int v3)]) hx hb d_Lexicon_hashOf_28 rfl hl (by decide) rfl (fun ls hl => ?_)
        obtain ⟨x_6, ex_6⟩ : ∃ y9 : Int32, y9 = v3 + 1 := ⟨_, rfl⟩
        replace hm := ob1_at ex_6 hm
        refine lv_iinc (v := x_6) (lv' := [(3, .int x_6), (2, .int x_5), (0, .ref ((o 1)))]) hx hb d_Lexicon_hashOf_29 hl (k := 2) rfl (by rw [ex_6]; rfl) (by decide) rfl (fun ls hl => ?_)
        refine lv_goto (tgt := 8) hx hb d_Lexicon_hashOf_32 (by decide) ?_
        exact ih _ _ hm _ _ _ hP hS (lv_sub hl [2, 1, 0] rfl)
def m_Lexicon_hashOf_a1 (n : Nat) (g : Nat → Nat) (i : Nat → Int32) (a : Nat → Nat → Int32) (v1 : Int32) : Option (Int32) := ob0 (m_Math_max n v1 (0 : Int32)) (fun r_2 => m_Lexicon_hashOf_a1_b8 n g i a n (0 : Int32) r_2)
set_option maxHeartbeats 4000000 in
set_option maxRecDepth 100000 in
theorem x_Lexicon_hashOf_a1 (l : Launch) (dC : Nat → ClassId) (dI : Nat → Nat → Nat) (cI : ClassId) (adK adV adA u o g : Nat → Nat) (sz : Nat) (n : Nat) {i : Nat → Int32} {a : Nat → Nat → Int32} {v1 : Int32} {r2 : Int32} (hm : m_Lexicon_hashOf_a1 n g i a v1 = some r2) : Met l y_Lexicon_hashOf w_Lexicon_hashOf ({ frames := 1, cells := 0, slots := 0, locals := 21 } : Room) (va_Pc [.ref ((o 1)), .int v1] (xEr dC dI cI adK adV adA u o g i a sz)) (va_Qi (xR r2) xT (xN sz)) 0 0 (xN sz) := by
  refine Met.ofW (cc := b_Lexicon_hashOf) (maxL := 4) (ret := (some .int)) (by decide) rfl ?_
  intro p e s m args below meth c s₁ B hml hv
  obtain ⟨rfl, hsz, hP, hK, hE⟩ := hv
  have hx := B.exec
  have hb := B.bytes
  have hr := B.returns
  have hts := atoms_spec (ws := w_Lexicon_hashOf) B.pre
  have htt : ∀ w ∈ tw_T, w.before _ s = true := fun w h => hts w (List.mem_cons_of_mem _ h)
  have hown : s.vm.findClass R_Lexicon = some m.cls := findClass_of_methodNamed B.named
  have hlocks := B.notSynchronized
  subst hsz
  generalize hAe : xN s.heap.size = A at hE ⊢
  have hA : ∀ q : Nat, s.heap.size ≤ q → A q := fun q h => by rw [← hAe]; exact Or.inr h
  have hS : va_S A s.heap s.heap [] := va_S.rf
  have hl := lv_entry ([.ref ((o 1)), .int v1]) (n := 4) (Nat.le_of_ble_eq_true rfl)
  rw [lg_entry_eq]
  generalize (lg_sl ([.ref ((o 1)), .int v1]) ++ List.replicate (4 - (lg_sl ([.ref ((o 1)), .int v1])).length) Slot.unset).toArray = ls at hl ⊢
  have hl : lv_has ls 4 [(0, .ref ((o 1))), (1, .int v1)] := hl
  rw [m_Lexicon_hashOf_a1] at hm
  refine lv_iconst (v := 0) hx hb d_Lexicon_hashOf_0 (by decide) ?_
  refine lv_istore_n (lv' := [(2, .int 0), (0, .ref ((o 1))), (1, .int v1)]) hx hb d_Lexicon_hashOf_1 rfl hl (by decide) rfl (fun ls hl => ?_)
  refine lv_iload_n hx hb d_Lexicon_hashOf_2 rfl (lv_at hl 2 rfl) ?_
  refine lv_iconst (v := 0) hx hb d_Lexicon_hashOf_3 (by decide) ?_
  obtain ⟨r_2, h_1, hm⟩ := ob0_some hm
  have hFc := x_free0 hS hA
  refine va_calli (va_runS (As := [.int v1, .int 0]) (rest := []) ⟨hx, hb, hml, hown, hts⟩ (x_Math_max l s.heap.size n h_1) (va_cwS 2 hts (tw_GS tw_cons cw_Math_max lk_Lexicon_77 st_Math_max ini_Math) rfl rfl rfl hd_Math_max ⟨Nat.le_of_ble_eq_true rfl, Nat.le_of_ble_eq_true rfl⟩) xpS0 rfl rfl hl.1 rfl (lv_room (Nat.le_of_ble_eq_true rfl)) d_Lexicon_hashOf_4 ⟨Nat.le_of_ble_eq_true rfl, Nat.le_of_ble_eq_true rfl⟩) hS (fun q _ h => hFc q h) hFc (fun r9 u9 t9 H locs ht hvm e9 hB hz1 hk1 hS => ?_)
  have e9 : r_2 = r9 := e9
  subst e9
  replace hP := x_keep hP hk1
  clear hFc hk1 hz1 hvm hB ht
  refine lv_istore_n (lv' := [(3, .int r_2), (2, .int 0), (0, .ref ((o 1))), (1, .int v1)]) hx hb d_Lexicon_hashOf_7 rfl hl (by decide) rfl (fun ls hl => ?_)
  exact lb_Lexicon_hashOf_a1_8 l dC dI cI adK adV adA u o g n hx hb hml hown hts hK hE hA hr hlocks n _ _ hm _ _ _ hP hS (lv_sub hl [2, 1, 0] rfl)

def m_Lexicon_isAt_a1_b11 (n : Nat) (g : Nat → Nat) (i : Nat → Int32) (a : Nat → Nat → Int32) : Nat → Int32 → Int32 → Int32 → Option (Int32)
  | 0, _, _, _ => none
  | f + 1, v3, v4, v5 => if ((600 : Int32)) ≤ ((v4 + v5)) then some 0 else if ((nI (g 1))) ≤ ((v3 + v5)) then some 0 else ck ((v4 + v5)) 600 (ck ((v3 + v5)) (g 1) (if ((a 5 (v4 + v5).toNatClampNeg)) = ((a 1 (v3 + v5).toNatClampNeg)) then ck ((v4 + v5)) 600 (if ((a 5 (v4 + v5).toNatClampNeg)) = ((0 : Int32)) then some 1 else ob1 (v5 + 1 : Int32) (fun x_8 => m_Lexicon_isAt_a1_b11 n g i a f v3 v4 x_8)) else some 0))
set_option maxHeartbeats 4000000 in
set_option maxRecDepth 100000 in
theorem lb_Lexicon_isAt_a1_11 (l : Launch) (dC : Nat → ClassId) (dI : Nat → Nat → Nat) (cI : ClassId) (adK adV adA u o g : Nat → Nat) (n : Nat) {p : Program} {e : Env} {s : State} {m : MethodId} {args : Array Value} {below : List Frame} {meth : Method} {c : Code} {A : Nat → Prop} (hx : p.tables.exec = Jvm.exec) (hb : c.code = b_Lexicon_isAt) (hml : c.maxLocals = 6) (hown : s.vm.findClass R_Lexicon = some m.cls) (hts : ∀ w ∈ w_Lexicon_isAt, w.before args s = true) (hK : va_K (dC, dI) classes [(cI, .int)] s) (hE : tw_E adK adV adA A s s.heap) (hA : ∀ q : Nat, s.heap.size ≤ q → A q) (hr : meth.sig.returnType = (some .boolean)) (hlocks : meth.locks = false) {i : Nat → Int32} {a : Nat → Nat → Int32} {r2 : Int32} : ∀ (f : Nat) (v3 : Int32) (v4 : Int32) (v5 : Int32), m_Lexicon_isAt_a1_b11 n g i a f v3 v4 v5 = some r2 → ∀ (H : Heap) (locs : List Loc) (ls : Array Slot), va_P (dC, dI) classes (TW cI u o i a g) H → va_S A s.heap H locs → lv_has ls 6 [(0, .ref ((u 2))), (2, .ref ((o 1))), (3, .int v3), (4, .int v4), (5, .int v5)] → W p l e ({ frames := 0, cells := 0, slots := 0, locals := 0 } : Room) s m args below meth c H locs 0 0 (MQ below (va_Qi (xR r2) xT A) args s 0 0 A) (F0 m 11 ls []) := by
  have htt : ∀ w ∈ tw_T, w.before _ s = true := fun w h => hts w (List.mem_cons_of_mem _ h)
  intro f
  induction f with
  | zero =>
    intro v3 v4 v5 hm
    rw [m_Lexicon_isAt_a1_b11] at hm
    cases hm
  | succ f ih =>
    intro v3 v4 v5 hm H locs ls hP hS hl
    rw [m_Lexicon_isAt_a1_b11] at hm
    refine lv_iload hx hb d_Lexicon_isAt_11 (lv_at hl 3 rfl) ?_
    refine lv_iload hx hb d_Lexicon_isAt_13 (lv_at hl 4 rfl) ?_
    refine lv_iadd hx hb d_Lexicon_isAt_15 ?_
    refine lv_sipush (v := 600) hx hb d_Lexicon_isAt_16 (by decide) ?_
    refine lv_icmp_ge (tgt := 73) hx hb d_Lexicon_isAt_19 (by decide) (fun c_1 => ?_) (fun c_1 => ?_)
    · replace hm := if_t c_1 hm
      refine lv_iconst (v := 0) hx hb d_Lexicon_isAt_73 (by decide) ?_
      have e3 := re1 hm
      exact W.zret hx hb hr (by decide) (fun t9 ht hW => ⟨⟨_, (), rfl, e3.symm, trivial⟩, hS.F ht⟩) hS.2.2 d_Lexicon_isAt_74
    · replace hm := if_f c_1 hm
      refine lv_iload_n hx hb d_Lexicon_isAt_22 rfl (lv_at hl 2 rfl) ?_
      refine lv_iload hx hb d_Lexicon_isAt_23 (lv_at hl 4 rfl) ?_
      refine lv_iadd hx hb d_Lexicon_isAt_25 ?_
      refine lv_aload_n hx hb d_Lexicon_isAt_26 rfl (lv_at hl 1 rfl) ?_
      refine va_alen (v := nI (g 1)) hx hb hK hP 13 0 twA_1 rfl rfl d_Lexicon_isAt_27 ?_
      refine lv_icmp_ge (tgt := 73) hx hb d_Lexicon_isAt_28 (by decide) (fun c_2 => ?_) (fun c_2 => ?_)
      · replace hm := if_t c_2 hm
        refine lv_iconst (v := 0) hx hb d_Lexicon_isAt_73 (by decide) ?_
        have e3 := re1 hm
        exact W.zret hx hb hr (by decide) (fun t9 ht hW => ⟨⟨_, (), rfl, e3.symm, trivial⟩, hS.F ht⟩) hS.2.2 d_Lexicon_isAt_74
      · replace hm := if_f c_2 hm
        refine lv_aload_n hx hb d_Lexicon_isAt_31 rfl (lv_at hl 0 rfl) ?_
        refine va_get (D := (dC, dI)) (ci := 2) (v := .ref ((u 15))) (C := R_Lexicon) (T := F_Lexicon) (N := 7) hx hb htt iw_Lexicon hown hK hP 2 xo_2 rfl 0 (Nat.le_of_ble_eq_true rfl) (htt _ lk_Lexicon_11) (fun _ h9 => h9) xg_2_0 d_Lexicon_isAt_32 ?_
        refine lv_iload hx hb d_Lexicon_isAt_35 (lv_at hl 3 rfl) ?_
        refine lv_iload hx hb d_Lexicon_isAt_37 (lv_at hl 4 rfl) ?_
        refine lv_iadd hx hb d_Lexicon_isAt_39 ?_
        obtain ⟨h_3, hm⟩ := ck_some hm
        refine va_iald hx hb hK hP 17 0 twA_5 rfl h_3 d_Lexicon_isAt_40 ?_
        refine lv_aload_n hx hb d_Lexicon_isAt_41 rfl (lv_at hl 1 rfl) ?_
        refine lv_iload_n hx hb d_Lexicon_isAt_42 rfl (lv_at hl 2 rfl) ?_
        refine lv_iload hx hb d_Lexicon_isAt_43 (lv_at hl 4 rfl) ?_
        refine lv_iadd hx hb d_Lexicon_isAt_45 ?_
        obtain ⟨h_4, hm⟩ := ck_some hm
        refine va_iald hx hb hK hP 13 0 twA_1 rfl h_4 d_Lexicon_isAt_46 ?_
        refine lv_icmp_eq (tgt := 52) hx hb d_Lexicon_isAt_47 (by decide) (fun c_5 => ?_) (fun c_5 => ?_)
        · replace hm := if_t c_5 hm
          refine lv_aload_n hx hb d_Lexicon_isAt_52 rfl (lv_at hl 0 rfl) ?_
          refine va_get (D := (dC, dI)) (ci := 2) (v := .ref ((u 15))) (C := R_Lexicon) (T := F_Lexicon) (N := 7) hx hb htt iw_Lexicon hown hK hP 2 xo_2 rfl 0 (Nat.le_of_ble_eq_true rfl) (htt _ lk_Lexicon_11) (fun _ h9 => h9) xg_2_0 d_Lexicon_isAt_53 ?_
          refine lv_iload hx hb d_Lexicon_isAt_56 (lv_at hl 3 rfl) ?_
          refine lv_iload hx hb d_Lexicon_isAt_58 (lv_at hl 4 rfl) ?_
          refine lv_iadd hx hb d_Lexicon_isAt_60 ?_
          obtain ⟨h_6, hm⟩ := ck_some hm
          refine va_iald hx hb hK hP 17 0 twA_5 rfl h_6 d_Lexicon_isAt_61 ?_
          refine lv_if_ne (tgt := 67) hx hb d_Lexicon_isAt_62 (by decide) (fun c_7 => ?_) (fun c_7 => ?_)
          · replace hm := if_f c_7 hm
            obtain ⟨x_8, ex_8⟩ : ∃ y9 : Int32, y9 = v5 + 1 := ⟨_, rfl⟩
            replace hm := ob1_at ex_8 hm
            refine lv_iinc (v := x_8) (lv' := [(5, .int x_8), (0, .ref ((u 2))), (2, .ref ((o 1))), (3, .int v3), (4, .int v4)]) hx hb d_Lexicon_isAt_67 hl (k := 4) rfl (by rw [ex_8]; rfl) (by decide) rfl (fun ls hl => ?_)
            refine lv_goto (tgt := 11) hx hb d_Lexicon_isAt_70 (by decide) ?_
            exact ih _ _ _ hm _ _ _ hP hS (lv_sub hl [1, 2, 3, 4, 0] rfl)
          · replace hm := if_t c_7 hm
            refine lv_iconst (v := 1) hx hb d_Lexicon_isAt_65 (by decide) ?_
            have e3 := re1 hm
            exact W.zret hx hb hr (by decide) (fun t9 ht hW => ⟨⟨_, (), rfl, e3.symm, trivial⟩, hS.F ht⟩) hS.2.2 d_Lexicon_isAt_66
        · replace hm := if_f c_5 hm
          refine lv_iconst (v := 0) hx hb d_Lexicon_isAt_50 (by decide) ?_
          have e3 := re1 hm
          exact W.zret hx hb hr (by decide) (fun t9 ht hW => ⟨⟨_, (), rfl, e3.symm, trivial⟩, hS.F ht⟩) hS.2.2 d_Lexicon_isAt_51
def m_Lexicon_isAt_a1 (n : Nat) (g : Nat → Nat) (i : Nat → Int32) (a : Nat → Nat → Int32) (v1 : Int32) (v3 : Int32) : Option (Int32) := ck v1 86 (ob1 (a 6 v1.toNatClampNeg : Int32) (fun x_2 => m_Lexicon_isAt_a1_b11 n g i a n v3 x_2 (0 : Int32)))
set_option maxHeartbeats 4000000 in
set_option maxRecDepth 100000 in
theorem x_Lexicon_isAt_a1 (l : Launch) (dC : Nat → ClassId) (dI : Nat → Nat → Nat) (cI : ClassId) (adK adV adA u o g : Nat → Nat) (sz : Nat) (n : Nat) {i : Nat → Int32} {a : Nat → Nat → Int32} {v1 : Int32} {v3 : Int32} {r2 : Int32} (hm : m_Lexicon_isAt_a1 n g i a v1 v3 = some r2) : Met l y_Lexicon_isAt w_Lexicon_isAt ({ frames := 0, cells := 0, slots := 0, locals := 0 } : Room) (va_Pc [.ref ((u 2)), .int v1, .ref ((o 1)), .int v3] (xEr dC dI cI adK adV adA u o g i a sz)) (va_Qi (xR r2) xT (xN sz)) 0 0 (xN sz) := by
  refine Met.ofW (cc := b_Lexicon_isAt) (maxL := 6) (ret := (some .boolean)) (by decide) rfl ?_
  intro p e s m args below meth c s₁ B hml hv
  obtain ⟨rfl, hsz, hP, hK, hE⟩ := hv
  have hx := B.exec
  have hb := B.bytes
  have hr := B.returns
  have hts := atoms_spec (ws := w_Lexicon_isAt) B.pre
  have htt : ∀ w ∈ tw_T, w.before _ s = true := fun w h => hts w (List.mem_cons_of_mem _ h)
  have hown : s.vm.findClass R_Lexicon = some m.cls := findClass_of_methodNamed B.named
  have hlocks := B.notSynchronized
  subst hsz
  generalize hAe : xN s.heap.size = A at hE ⊢
  have hA : ∀ q : Nat, s.heap.size ≤ q → A q := fun q h => by rw [← hAe]; exact Or.inr h
  have hS : va_S A s.heap s.heap [] := va_S.rf
  have hl := lv_entry ([.ref ((u 2)), .int v1, .ref ((o 1)), .int v3]) (n := 6) (Nat.le_of_ble_eq_true rfl)
  rw [lg_entry_eq]
  generalize (lg_sl ([.ref ((u 2)), .int v1, .ref ((o 1)), .int v3]) ++ List.replicate (6 - (lg_sl ([.ref ((u 2)), .int v1, .ref ((o 1)), .int v3])).length) Slot.unset).toArray = ls at hl ⊢
  have hl : lv_has ls 6 [(0, .ref ((u 2))), (1, .int v1), (2, .ref ((o 1))), (3, .int v3)] := hl
  rw [m_Lexicon_isAt_a1] at hm
  refine lv_aload_n hx hb d_Lexicon_isAt_0 rfl (lv_at hl 0 rfl) ?_
  refine va_get (D := (dC, dI)) (ci := 2) (v := .ref ((u 16))) (C := R_Lexicon) (T := F_Lexicon) (N := 7) hx hb htt iw_Lexicon hown hK hP 2 xo_2 rfl 1 (Nat.le_of_ble_eq_true rfl) (htt _ lk_Lexicon_15) (fun _ h9 => h9) xg_2_1 d_Lexicon_isAt_1 ?_
  refine lv_iload_n hx hb d_Lexicon_isAt_4 rfl (lv_at hl 1 rfl) ?_
  obtain ⟨h_1, hm⟩ := ck_some hm
  refine va_iald hx hb hK hP 18 0 twA_6 rfl h_1 d_Lexicon_isAt_5 ?_
  refine lv_topi (fun x_2 ex_2 => ?_)
  replace hm := ob1_at ex_2 hm
  refine lv_istore (lv' := [(4, .int x_2), (0, .ref ((u 2))), (1, .int v1), (2, .ref ((o 1))), (3, .int v3)]) hx hb d_Lexicon_isAt_6 hl (by decide) rfl (fun ls hl => ?_)
  refine lv_iconst (v := 0) hx hb d_Lexicon_isAt_8 (by decide) ?_
  refine lv_istore (lv' := [(5, .int 0), (4, .int x_2), (0, .ref ((u 2))), (1, .int v1), (2, .ref ((o 1))), (3, .int v3)]) hx hb d_Lexicon_isAt_9 hl (by decide) rfl (fun ls hl => ?_)
  exact lb_Lexicon_isAt_a1_11 l dC dI cI adK adV adA u o g n hx hb hml hown hts hK hE hA hr hlocks n _ _ _ hm _ _ _ hP hS (lv_sub hl [2, 4, 5, 1, 0] rfl)

def m_Lexicon_meaning_a1_b43 (n : Nat) (g : Nat → Nat) (i : Nat → Int32) (a : Nat → Nat → Int32) : Nat → Int32 → Int32 → Int32 → Option (Int32)
  | 0, _, _, _ => none
  | f + 1, v2, v3, v4 => if ((256 : Int32)) ≤ v4 then some 0 else ck (((v3 + v4) &&& 255)) 256 (ob1 (a 9 ((v3 + v4) &&& 255).toNatClampNeg : Int32) (fun x_3 => if x_3 = ((0 : Int32)) then some x_3 else ob0 (m_Lexicon_isAt_a1 n g i a x_3 v2) (fun r_6 => if r_6 = ((0 : Int32)) then ob1 (v4 + 1 : Int32) (fun x_8 => m_Lexicon_meaning_a1_b43 n g i a f v2 v3 x_8) else some x_3)))
set_option maxHeartbeats 4000000 in
set_option maxRecDepth 100000 in
theorem lb_Lexicon_meaning_a1_43 (l : Launch) (dC : Nat → ClassId) (dI : Nat → Nat → Nat) (cI : ClassId) (adK adV adA u o g : Nat → Nat) (n : Nat) {p : Program} {e : Env} {s : State} {m : MethodId} {args : Array Value} {below : List Frame} {meth : Method} {c : Code} {A : Nat → Prop} (hx : p.tables.exec = Jvm.exec) (hb : c.code = b_Lexicon_meaning) (hml : c.maxLocals = 6) (hown : s.vm.findClass R_Lexicon = some m.cls) (hts : ∀ w ∈ w_Lexicon_meaning, w.before args s = true) (hK : va_K (dC, dI) classes [(cI, .int)] s) (hE : tw_E adK adV adA A s s.heap) (hA : ∀ q : Nat, s.heap.size ≤ q → A q) (hr : meth.sig.returnType = (some .int)) (hlocks : meth.locks = false) {i : Nat → Int32} {a : Nat → Nat → Int32} {r2 : Int32} : ∀ (f : Nat) (v2 : Int32) (v3 : Int32) (v4 : Int32), m_Lexicon_meaning_a1_b43 n g i a f v2 v3 v4 = some r2 → ∀ (H : Heap) (locs : List Loc) (ls : Array Slot), va_P (dC, dI) classes (TW cI u o i a g) H → va_S A s.heap H locs → lv_has ls 6 [(0, .ref ((u 2))), (1, .ref ((o 1))), (2, .int v2), (3, .int v3), (4, .int v4)] → W p l e ({ frames := 2, cells := 0, slots := 0, locals := 44 } : Room) s m args below meth c H locs 0 0 (MQ below (va_Qi (xR r2) xT A) args s 0 0 A) (F0 m 43 ls []) := by
  have htt : ∀ w ∈ tw_T, w.before _ s = true := fun w h => hts w (List.mem_cons_of_mem _ h)
  intro f
  induction f with
  | zero =>
    intro v2 v3 v4 hm
    rw [m_Lexicon_meaning_a1_b43] at hm
    cases hm
  | succ f ih =>
    intro v2 v3 v4 hm H locs ls hP hS hl
    rw [m_Lexicon_meaning_a1_b43] at hm
    refine lv_iload hx hb d_Lexicon_meaning_43 (lv_at hl 4 rfl) ?_
    refine lv_sipush (v := 256) hx hb d_Lexicon_meaning_45 (by decide) ?_
    refine lv_icmp_ge (tgt := 91) hx hb d_Lexicon_meaning_48 (by decide) (fun c_1 => ?_) (fun c_1 => ?_)
    · replace hm := if_t c_1 hm
      refine lv_iconst (v := 0) hx hb d_Lexicon_meaning_91 (by decide) ?_
      have e3 := re1 hm
      exact W.iret hx hb hr (fun t9 ht hW => ⟨⟨_, (), rfl, e3.symm, trivial⟩, hS.F ht⟩) hS.2.2 d_Lexicon_meaning_92
    · replace hm := if_f c_1 hm
      refine lv_aload_n hx hb d_Lexicon_meaning_51 rfl (lv_at hl 0 rfl) ?_
      refine va_get (D := (dC, dI)) (ci := 2) (v := .ref ((u 19))) (C := R_Lexicon) (T := F_Lexicon) (N := 7) hx hb htt iw_Lexicon hown hK hP 2 xo_2 rfl 4 (Nat.le_of_ble_eq_true rfl) (htt _ lk_Lexicon_24) (fun _ h9 => h9) xg_2_4 d_Lexicon_meaning_52 ?_
      refine lv_iload_n hx hb d_Lexicon_meaning_55 rfl (lv_at hl 3 rfl) ?_
      refine lv_iload hx hb d_Lexicon_meaning_56 (lv_at hl 4 rfl) ?_
      refine lv_iadd hx hb d_Lexicon_meaning_58 ?_
      refine lv_sipush (v := 255) hx hb d_Lexicon_meaning_59 (by decide) ?_
      refine lv_iand hx hb d_Lexicon_meaning_62 ?_
      obtain ⟨h_2, hm⟩ := ck_some hm
      refine va_iald hx hb hK hP 21 0 twA_9 rfl h_2 d_Lexicon_meaning_63 ?_
      refine lv_topi (fun x_3 ex_3 => ?_)
      replace hm := ob1_at ex_3 hm
      refine lv_istore (lv' := [(5, .int x_3), (0, .ref ((u 2))), (1, .ref ((o 1))), (2, .int v2), (3, .int v3), (4, .int v4)]) hx hb d_Lexicon_meaning_64 hl (by decide) rfl (fun ls hl => ?_)
      refine lv_iload hx hb d_Lexicon_meaning_66 (lv_at hl 0 rfl) ?_
      refine lv_if_eq (tgt := 82) hx hb d_Lexicon_meaning_68 (by decide) (fun c_4 => ?_) (fun c_4 => ?_)
      · replace hm := if_t c_4 hm
        refine lv_iload hx hb d_Lexicon_meaning_82 (lv_at hl 0 rfl) ?_
        have e3 := re1 hm
        exact W.iret hx hb hr (fun t9 ht hW => ⟨⟨_, (), rfl, e3.symm, trivial⟩, hS.F ht⟩) hS.2.2 d_Lexicon_meaning_84
      · replace hm := if_f c_4 hm
        refine lv_aload_n hx hb d_Lexicon_meaning_71 rfl (lv_at hl 1 rfl) ?_
        refine lv_iload hx hb d_Lexicon_meaning_72 (lv_at hl 0 rfl) ?_
        refine lv_aload_n hx hb d_Lexicon_meaning_74 rfl (lv_at hl 2 rfl) ?_
        refine lv_iload_n hx hb d_Lexicon_meaning_75 rfl (lv_at hl 3 rfl) ?_
        obtain ⟨r_6, h_5, hm⟩ := ob0_some hm
        have hFc := x_free0 hS hA
        refine va_calli (va_runV (As := [.int x_3, .ref ((o 1)), .int v2]) (rest := []) ⟨hx, hb, hml, hown, hts⟩ (x_Lexicon_isAt_a1 l dC dI cI adK adV adA u o g H.size n h_5) (cwV 3 hts (tw_GV tw_cons cw_Lexicon_isAt lk_Lexicon_83 in_Lexicon_isAt sel_Lexicon_isAt ini_Lexicon) rfl rfl rfl ⟨rfl, hd_Lexicon_isAt⟩ ⟨Nat.le_of_ble_eq_true rfl, Nat.le_of_ble_eq_true rfl⟩) (xpVr hK hP hS hE hFc xo_2 rfl) rfl rfl hl.1 rfl (lv_room (Nat.le_of_ble_eq_true rfl)) d_Lexicon_meaning_76 ⟨Nat.le_of_ble_eq_true rfl, Nat.le_of_ble_eq_true rfl⟩) hS (fun q _ h => hFc q h) hFc (fun r9 u9 t9 H locs ht hvm e9 hB hz1 hk1 hS => ?_)
        have e9 : r_6 = r9 := e9
        subst e9
        replace hP := x_keep hP hk1
        clear hFc hk1 hz1 hvm hB ht
        refine lv_if_eq (tgt := 85) hx hb d_Lexicon_meaning_79 (by decide) (fun c_7 => ?_) (fun c_7 => ?_)
        · replace hm := if_t c_7 hm
          obtain ⟨x_8, ex_8⟩ : ∃ y9 : Int32, y9 = v4 + 1 := ⟨_, rfl⟩
          replace hm := ob1_at ex_8 hm
          refine lv_iinc (v := x_8) (lv' := [(4, .int x_8), (5, .int x_3), (0, .ref ((u 2))), (1, .ref ((o 1))), (2, .int v2), (3, .int v3)]) hx hb d_Lexicon_meaning_85 hl (k := 5) rfl (by rw [ex_8]; rfl) (by decide) rfl (fun ls hl => ?_)
          refine lv_goto (tgt := 43) hx hb d_Lexicon_meaning_88 (by decide) ?_
          exact ih _ _ _ hm _ _ _ hP hS (lv_sub hl [2, 3, 4, 5, 0] rfl)
        · replace hm := if_f c_7 hm
          refine lv_iload hx hb d_Lexicon_meaning_82 (lv_at hl 0 rfl) ?_
          have e3 := re1 hm
          exact W.iret hx hb hr (fun t9 ht hW => ⟨⟨_, (), rfl, e3.symm, trivial⟩, hS.F ht⟩) hS.2.2 d_Lexicon_meaning_84
def m_Lexicon_meaning_a1 (n : Nat) (g : Nat → Nat) (i : Nat → Int32) (a : Nat → Nat → Int32) (v2 : Int32) : Option (Int32) := if v2 < ((0 : Int32)) then some 0 else if v2 < ((nI (g 1))) then ck v2 (g 1) (if ((a 1 v2.toNatClampNeg)) = ((34 : Int32)) then some 86 else ck v2 (g 1) (if ((a 1 v2.toNatClampNeg)) = ((58 : Int32)) then some 87 else ob0 (m_Lexicon_hashOf_a1 n g i a v2) (fun r_8 => m_Lexicon_meaning_a1_b43 n g i a n v2 r_8 (0 : Int32)))) else some 0
set_option maxHeartbeats 4000000 in
set_option maxRecDepth 100000 in
theorem x_Lexicon_meaning_a1 (l : Launch) (dC : Nat → ClassId) (dI : Nat → Nat → Nat) (cI : ClassId) (adK adV adA u o g : Nat → Nat) (sz : Nat) (n : Nat) {i : Nat → Int32} {a : Nat → Nat → Int32} {v2 : Int32} {r2 : Int32} (hm : m_Lexicon_meaning_a1 n g i a v2 = some r2) : Met l y_Lexicon_meaning w_Lexicon_meaning ({ frames := 2, cells := 0, slots := 0, locals := 44 } : Room) (va_Pc [.ref ((u 2)), .ref ((o 1)), .int v2] (xEr dC dI cI adK adV adA u o g i a sz)) (va_Qi (xR r2) xT (xN sz)) 0 0 (xN sz) := by
  refine Met.ofW (cc := b_Lexicon_meaning) (maxL := 6) (ret := (some .int)) (by decide) rfl ?_
  intro p e s m args below meth c s₁ B hml hv
  obtain ⟨rfl, hsz, hP, hK, hE⟩ := hv
  have hx := B.exec
  have hb := B.bytes
  have hr := B.returns
  have hts := atoms_spec (ws := w_Lexicon_meaning) B.pre
  have htt : ∀ w ∈ tw_T, w.before _ s = true := fun w h => hts w (List.mem_cons_of_mem _ h)
  have hown : s.vm.findClass R_Lexicon = some m.cls := findClass_of_methodNamed B.named
  have hlocks := B.notSynchronized
  subst hsz
  generalize hAe : xN s.heap.size = A at hE ⊢
  have hA : ∀ q : Nat, s.heap.size ≤ q → A q := fun q h => by rw [← hAe]; exact Or.inr h
  have hS : va_S A s.heap s.heap [] := va_S.rf
  have hl := lv_entry ([.ref ((u 2)), .ref ((o 1)), .int v2]) (n := 6) (Nat.le_of_ble_eq_true rfl)
  rw [lg_entry_eq]
  generalize (lg_sl ([.ref ((u 2)), .ref ((o 1)), .int v2]) ++ List.replicate (6 - (lg_sl ([.ref ((u 2)), .ref ((o 1)), .int v2])).length) Slot.unset).toArray = ls at hl ⊢
  have hl : lv_has ls 6 [(0, .ref ((u 2))), (1, .ref ((o 1))), (2, .int v2)] := hl
  rw [m_Lexicon_meaning_a1] at hm
  refine lv_iload_n hx hb d_Lexicon_meaning_0 rfl (lv_at hl 2 rfl) ?_
  refine lv_if_lt (tgt := 10) hx hb d_Lexicon_meaning_1 (by decide) (fun c_1 => ?_) (fun c_1 => ?_)
  · replace hm := if_t c_1 hm
    refine lv_iconst (v := 0) hx hb d_Lexicon_meaning_10 (by decide) ?_
    have e3 := re1 hm
    exact W.iret hx hb hr (fun t9 ht hW => ⟨⟨_, (), rfl, e3.symm, trivial⟩, hS.F ht⟩) hS.2.2 d_Lexicon_meaning_11
  · replace hm := if_f c_1 hm
    refine lv_iload_n hx hb d_Lexicon_meaning_4 rfl (lv_at hl 2 rfl) ?_
    refine lv_aload_n hx hb d_Lexicon_meaning_5 rfl (lv_at hl 1 rfl) ?_
    refine va_alen (v := nI (g 1)) hx hb hK hP 13 0 twA_1 rfl rfl d_Lexicon_meaning_6 ?_
    refine lv_icmp_lt (tgt := 12) hx hb d_Lexicon_meaning_7 (by decide) (fun c_2 => ?_) (fun c_2 => ?_)
    · replace hm := if_t c_2 hm
      refine lv_aload_n hx hb d_Lexicon_meaning_12 rfl (lv_at hl 1 rfl) ?_
      refine lv_iload_n hx hb d_Lexicon_meaning_13 rfl (lv_at hl 2 rfl) ?_
      obtain ⟨h_3, hm⟩ := ck_some hm
      refine va_iald hx hb hK hP 13 0 twA_1 rfl h_3 d_Lexicon_meaning_14 ?_
      refine lv_bipush (v := 34) hx hb d_Lexicon_meaning_15 (by decide) ?_
      refine lv_icmp_ne (tgt := 23) hx hb d_Lexicon_meaning_17 (by decide) (fun c_4 => ?_) (fun c_4 => ?_)
      · replace hm := if_f c_4 hm
        refine lv_aload_n hx hb d_Lexicon_meaning_23 rfl (lv_at hl 1 rfl) ?_
        refine lv_iload_n hx hb d_Lexicon_meaning_24 rfl (lv_at hl 2 rfl) ?_
        obtain ⟨h_5, hm⟩ := ck_some hm
        refine va_iald hx hb hK hP 13 0 twA_1 rfl h_5 d_Lexicon_meaning_25 ?_
        refine lv_bipush (v := 58) hx hb d_Lexicon_meaning_26 (by decide) ?_
        refine lv_icmp_ne (tgt := 34) hx hb d_Lexicon_meaning_28 (by decide) (fun c_6 => ?_) (fun c_6 => ?_)
        · replace hm := if_f c_6 hm
          refine lv_aload_n hx hb d_Lexicon_meaning_34 rfl (lv_at hl 1 rfl) ?_
          refine lv_iload_n hx hb d_Lexicon_meaning_35 rfl (lv_at hl 2 rfl) ?_
          obtain ⟨r_8, h_7, hm⟩ := ob0_some hm
          have hFc := x_free0 hS hA
          refine va_calli (va_runS (As := [.ref ((o 1)), .int v2]) (rest := []) ⟨hx, hb, hml, hown, hts⟩ (x_Lexicon_hashOf_a1 l dC dI cI adK adV adA u o g s.heap.size n h_7) (va_cwS 2 hts (tw_GS tw_cons cw_Lexicon_hashOf lk_Lexicon_73 st_Lexicon_hashOf ini_Lexicon) rfl rfl rfl hd_Lexicon_hashOf ⟨Nat.le_of_ble_eq_true rfl, Nat.le_of_ble_eq_true rfl⟩) (xpSr hK hP hS hE hFc) rfl rfl hl.1 rfl (lv_room (Nat.le_of_ble_eq_true rfl)) d_Lexicon_meaning_36 ⟨Nat.le_of_ble_eq_true rfl, Nat.le_of_ble_eq_true rfl⟩) hS (fun q _ h => hFc q h) hFc (fun r9 u9 t9 H locs ht hvm e9 hB hz1 hk1 hS => ?_)
          have e9 : r_8 = r9 := e9
          subst e9
          replace hP := x_keep hP hk1
          clear hFc hk1 hz1 hvm hB ht
          refine lv_istore_n (lv' := [(3, .int r_8), (0, .ref ((u 2))), (1, .ref ((o 1))), (2, .int v2)]) hx hb d_Lexicon_meaning_39 rfl hl (by decide) rfl (fun ls hl => ?_)
          refine lv_iconst (v := 0) hx hb d_Lexicon_meaning_40 (by decide) ?_
          refine lv_istore (lv' := [(4, .int 0), (3, .int r_8), (0, .ref ((u 2))), (1, .ref ((o 1))), (2, .int v2)]) hx hb d_Lexicon_meaning_41 hl (by decide) rfl (fun ls hl => ?_)
          exact lb_Lexicon_meaning_a1_43 l dC dI cI adK adV adA u o g n hx hb hml hown hts hK hE hA hr hlocks n _ _ _ hm _ _ _ hP hS (lv_sub hl [2, 3, 4, 1, 0] rfl)
        · replace hm := if_t c_6 hm
          refine lv_bipush (v := 87) hx hb d_Lexicon_meaning_31 (by decide) ?_
          have e3 := re1 hm
          exact W.iret hx hb hr (fun t9 ht hW => ⟨⟨_, (), rfl, e3.symm, trivial⟩, hS.F ht⟩) hS.2.2 d_Lexicon_meaning_33
      · replace hm := if_t c_4 hm
        refine lv_bipush (v := 86) hx hb d_Lexicon_meaning_20 (by decide) ?_
        have e3 := re1 hm
        exact W.iret hx hb hr (fun t9 ht hW => ⟨⟨_, (), rfl, e3.symm, trivial⟩, hS.F ht⟩) hS.2.2 d_Lexicon_meaning_22
    · replace hm := if_f c_2 hm
      refine lv_iconst (v := 0) hx hb d_Lexicon_meaning_10 (by decide) ?_
      have e3 := re1 hm
      exact W.iret hx hb hr (fun t9 ht hW => ⟨⟨_, (), rfl, e3.symm, trivial⟩, hS.F ht⟩) hS.2.2 d_Lexicon_meaning_11

def m_Heap_movedWord_b148 (n : Nat) (i : Nat → Int32) (a : Nat → Nat → Int32) (g : Nat → Nat) (v4 : Int32) : Option ((Nat → Int32) × (Nat → Nat → Int32) × (Nat → Nat) × (Nat × Nat) × Int32) := some (i, a, g, (0, 0), (v4 <<< ((2 : Int32) &&& 31)) ||| 3)
set_option maxHeartbeats 4000000 in
set_option maxRecDepth 100000 in
theorem lb_Heap_movedWord_148 (l : Launch) (dC : Nat → ClassId) (dI : Nat → Nat → Nat) (cI : ClassId) (adK adV adA u : Nat → Nat) (n : Nat) {p : Program} {e : Env} {s : State} {m : MethodId} {args : Array Value} {below : List Frame} {meth : Method} {c : Code} {A : Nat → Prop} (hx : p.tables.exec = Jvm.exec) (hb : c.code = b_Heap_movedWord) (hml : c.maxLocals = 5) (hown : s.vm.findClass R_Heap = some m.cls) (hts : ∀ w ∈ w_Heap_movedWord, w.before args s = true) (hK : va_K (dC, dI) classes [(cI, .int)] s) (hE : tw_E adK adV adA A s s.heap) (hA : ∀ q : Nat, s.heap.size ≤ q → A q) (hr : meth.sig.returnType = (some .int)) (hlocks : meth.locks = false) {mc ms : Nat} {i2 : Nat → Int32} {a2 : Nat → Nat → Int32} {g2 : Nat → Nat} {r2 : Int32} (i : Nat → Int32) (a : Nat → Nat → Int32) (g : Nat → Nat) (v4 : Int32) (k2 : Nat × Nat) (hm : m_Heap_movedWord_b148 n i a g v4 = some (i2, a2, g2, k2, r2)) : ∀ (o : Nat → Nat) (kc ks : Nat), kc + k2.1 = mc → ks + k2.2 = ms → ∀ (H : Heap) (locs : List Loc) (ls : Array Slot), va_P (dC, dI) classes (TW cI u o i a g) H → va_D A (TW cI u o i a g) → va_S A s.heap H locs → lv_has ls 5 [(4, .int v4)] → W p l e ({ frames := 3, cells := mc, slots := ms, locals := 84 } : Room) s m args below meth c H locs kc ks (MQ below (va_Qi (xRg r2) (xBg dC dI cI u g2 i2 a2 A) A) args s mc ms A) (F0 m 148 ls []) := by
  have htt : ∀ w ∈ tw_T, w.before _ s = true := fun w h => hts w (List.mem_cons_of_mem _ h)
  intro o kc ks hkc hks H locs ls hP hD hS hl
  rw [m_Heap_movedWord_b148] at hm
  refine lv_iload hx hb d_Heap_movedWord_148 (lv_at hl 0 rfl) ?_
  refine lv_iconst (v := 2) hx hb d_Heap_movedWord_150 (by decide) ?_
  refine lv_ishl hx hb d_Heap_movedWord_151 ?_
  refine lv_iconst (v := 3) hx hb d_Heap_movedWord_152 (by decide) ?_
  refine lv_ior hx hb d_Heap_movedWord_153 ?_
  obtain ⟨e1, e2, e4, e5, e6, e3⟩ := re5 hm
  obtain ⟨hP, hD⟩ := x_eqg e1 e2 e4 hP hD
  refine W.widen (k := mc) (n := ms) (show kc ≤ mc by omega) (show ks ≤ ms by omega) ?_
  exact W.iret hx hb hr (fun t9 ht hW => ⟨⟨_, o, rfl, e3.symm, by rw [ht]; exact hP, hD⟩, hS.F ht⟩) hS.2.2 d_Heap_movedWord_154
def m_Heap_movedWord_b119 (n : Nat) (i : Nat → Int32) (a : Nat → Nat → Int32) (g : Nat → Nat) (v1 : Int32) (v2 : Int32) (v3 : Int32) (v4 : Int32) (s0 : Int32) (s1 : Int32) : Option ((Nat → Int32) × (Nat → Nat → Int32) × (Nat → Nat) × (Nat × Nat) × Int32) := ck s1 (g 1) (ob1 (sv a 1 s1.toNatClampNeg s0 : Nat → Nat → Int32) (fun a_2 => ob1 ((v4 + v3) + 1 : Int32) (fun x_3 => ob1 (upd i 9 x_3 : Nat → Int32) (fun i_4 => if v2 < ((128 : Int32)) then m_Heap_movedWord_b148 n i_4 a_2 g v4 else ck ((v1 - 1)) (g 0) (ob1 (sv a_2 0 (v1 - 1).toNatClampNeg (-v4) : Nat → Nat → Int32) (fun a_7 => m_Heap_movedWord_b148 n i_4 a_7 g v4))))))
set_option maxHeartbeats 4000000 in
set_option maxRecDepth 100000 in
theorem lb_Heap_movedWord_119 (l : Launch) (dC : Nat → ClassId) (dI : Nat → Nat → Nat) (cI : ClassId) (adK adV adA u : Nat → Nat) (n : Nat) {p : Program} {e : Env} {s : State} {m : MethodId} {args : Array Value} {below : List Frame} {meth : Method} {c : Code} {A : Nat → Prop} (hx : p.tables.exec = Jvm.exec) (hb : c.code = b_Heap_movedWord) (hml : c.maxLocals = 5) (hown : s.vm.findClass R_Heap = some m.cls) (hts : ∀ w ∈ w_Heap_movedWord, w.before args s = true) (hK : va_K (dC, dI) classes [(cI, .int)] s) (hE : tw_E adK adV adA A s s.heap) (hA : ∀ q : Nat, s.heap.size ≤ q → A q) (hr : meth.sig.returnType = (some .int)) (hlocks : meth.locks = false) {mc ms : Nat} {i2 : Nat → Int32} {a2 : Nat → Nat → Int32} {g2 : Nat → Nat} {r2 : Int32} (i : Nat → Int32) (a : Nat → Nat → Int32) (g : Nat → Nat) (v1 : Int32) (v2 : Int32) (v3 : Int32) (v4 : Int32) (s0 : Int32) (s1 : Int32) (k2 : Nat × Nat) (hm : m_Heap_movedWord_b119 n i a g v1 v2 v3 v4 s0 s1 = some (i2, a2, g2, k2, r2)) : ∀ (o : Nat → Nat) (kc ks : Nat), kc + k2.1 = mc → ks + k2.2 = ms → ∀ (H : Heap) (locs : List Loc) (ls : Array Slot), va_P (dC, dI) classes (TW cI u o i a g) H → va_D A (TW cI u o i a g) → va_S A s.heap H locs → lv_has ls 5 [(0, .ref ((u 1))), (1, .int v1), (2, .int v2), (3, .int v3), (4, .int v4)] → W p l e ({ frames := 3, cells := mc, slots := ms, locals := 84 } : Room) s m args below meth c H locs kc ks (MQ below (va_Qi (xRg r2) (xBg dC dI cI u g2 i2 a2 A) A) args s mc ms A) (F0 m 119 ls [.int s0, .int s1, .ref ((o 1))]) := by
  have htt : ∀ w ∈ tw_T, w.before _ s = true := fun w h => hts w (List.mem_cons_of_mem _ h)
  intro o kc ks hkc hks H locs ls hP hD hS hl
  rw [m_Heap_movedWord_b119] at hm
  obtain ⟨h_1, hm⟩ := ck_some hm
  refine va_iast hx hb hK hP hD hS 13 0 twA_1 rfl h_1 d_Heap_movedWord_119 (fun H locs hP hD hS => ?_)
  obtain ⟨a_2, ea_2⟩ : ∃ y9 : Nat → Nat → Int32, y9 = sv a 1 s1.toNatClampNeg s0 := ⟨_, rfl⟩
  replace hm := ob1_at ea_2 hm
  obtain ⟨hP, hD⟩ := xv_1 ea_2 hP hD
  refine lv_aload_n hx hb d_Heap_movedWord_120 rfl (lv_at hl 0 rfl) ?_
  refine lv_iload hx hb d_Heap_movedWord_121 (lv_at hl 4 rfl) ?_
  refine lv_iload_n hx hb d_Heap_movedWord_123 rfl (lv_at hl 3 rfl) ?_
  refine lv_iadd hx hb d_Heap_movedWord_124 ?_
  refine lv_iconst (v := 1) hx hb d_Heap_movedWord_125 (by decide) ?_
  refine lv_iadd hx hb d_Heap_movedWord_126 ?_
  refine lv_topi (fun x_3 ex_3 => ?_)
  replace hm := ob1_at ex_3 hm
  refine va_put (D := (dC, dI)) (ci := 1) (v := .int x_3) (ty := .int) (C := R_Heap) (T := F_Heap) (N := 12) hx hb htt iw_Heap t_Heap t_Heap_ok n_Heap hown hK hP hD hS 1 xo_1 rfl 8 (Nat.le_of_ble_eq_true rfl) (htt _ lk_Heap_153) (fun _ h9 => h9) rfl (by decide +kernel) rfl rfl xl_1_8 d_Heap_movedWord_127 (fun H locs hP hD hS => ?_)
  obtain ⟨i_4, ei_4⟩ : ∃ y9 : Nat → Int32, y9 = upd i 9 x_3 := ⟨_, rfl⟩
  replace hm := ob1_at ei_4 hm
  obtain ⟨hP, hD⟩ := xw_9 ei_4 hP hD
  refine lv_iload_n hx hb d_Heap_movedWord_130 rfl (lv_at hl 2 rfl) ?_
  refine lv_sipush (v := 128) hx hb d_Heap_movedWord_131 (by decide) ?_
  refine lv_icmp_lt (tgt := 148) hx hb d_Heap_movedWord_134 (by decide) (fun c_5 => ?_) (fun c_5 => ?_)
  · replace hm := if_t c_5 hm
    exact lb_Heap_movedWord_148 l dC dI cI adK adV adA u n hx hb hml hown hts hK hE hA hr hlocks _ _ _ _ _ hm o kc ks hkc hks _ _ _ hP hD hS (lv_sub hl [4] rfl)
  · replace hm := if_f c_5 hm
    refine lv_aload_n hx hb d_Heap_movedWord_137 rfl (lv_at hl 0 rfl) ?_
    refine va_get (D := (dC, dI)) (ci := 1) (v := .ref ((o 0))) (C := R_Heap) (T := F_Heap) (N := 12) hx hb htt iw_Heap hown hK hP 1 xo_1 rfl 5 (Nat.le_of_ble_eq_true rfl) (htt _ lk_Heap_11) (fun _ h9 => h9) xg_1_5 d_Heap_movedWord_138 ?_
    refine lv_iload_n hx hb d_Heap_movedWord_141 rfl (lv_at hl 1 rfl) ?_
    refine lv_iconst (v := 1) hx hb d_Heap_movedWord_142 (by decide) ?_
    refine lv_isub hx hb d_Heap_movedWord_143 ?_
    refine lv_iload hx hb d_Heap_movedWord_144 (lv_at hl 4 rfl) ?_
    refine lv_ineg hx hb d_Heap_movedWord_146 ?_
    obtain ⟨h_6, hm⟩ := ck_some hm
    refine va_iast hx hb hK hP hD hS 12 0 twA_0 rfl h_6 d_Heap_movedWord_147 (fun H locs hP hD hS => ?_)
    obtain ⟨a_7, ea_7⟩ : ∃ y9 : Nat → Nat → Int32, y9 = sv a_2 0 (v1 - 1).toNatClampNeg (-v4) := ⟨_, rfl⟩
    replace hm := ob1_at ea_7 hm
    obtain ⟨hP, hD⟩ := xv_0 ea_7 hP hD
    exact lb_Heap_movedWord_148 l dC dI cI adK adV adA u n hx hb hml hown hts hK hE hA hr hlocks _ _ _ _ _ hm o kc ks hkc hks _ _ _ hP hD hS (lv_sub hl [4] rfl)
def m_Heap_movedWord (n : Nat) (g : Nat → Nat) (i : Nat → Int32) (a : Nat → Nat → Int32) (v1 : Int32) : Option ((Nat → Int32) × (Nat → Nat → Int32) × (Nat → Nat) × (Nat × Nat) × Int32) := ck ((v1 - 1)) (g 0) (ob1 (a 0 (v1 - 1).toNatClampNeg : Int32) (fun x_2 => if ((0 : Int32)) ≤ x_2 then ob0 (m_Heap_size n g i a ((v1 <<< ((2 : Int32) &&& 31)) ||| 3)) (fun r_5 => if (((nI (g 0)) - v1)) < ((r_5 + 1)) then some (i, a, g, (0, 0), i 4) else obG (m_Heap_reserveSpare n g i a (r_5 + 2)) (fun i_10 a_11 g_12 r_14 => if r_14 = ((0 : Int32)) then some (i_10, a_11, g_12, (0, 0), i_10 4) else ob1 ((i_10 9) + 1 : Int32) (fun x_20 => cy v1 x_20 (r_5 + 1) (g_12 0) (g_12 1) (ob1 (updA a_11 1 (va_cpy (a_11 0) (a_11 1) v1.toNatClampNeg x_20.toNatClampNeg (r_5 + 1).toNatClampNeg) : Nat → Nat → Int32) (fun a_22 => if x_2 < ((128 : Int32)) then ob0 (m_Lexicon_meaning_a1 n g_12 i_10 a_22 x_20) (fun r_25 => m_Heap_movedWord_b119 n i_10 a_22 g_12 v1 x_2 r_5 x_20 (128 + r_25) (x_20 - 1)) else m_Heap_movedWord_b119 n i_10 a_22 g_12 v1 x_2 r_5 x_20 x_2 (x_20 - 1)))))) else some (i, a, g, (0, 0), ((-x_2) <<< ((2 : Int32) &&& 31)) ||| 3)))
set_option maxHeartbeats 4000000 in
set_option maxRecDepth 100000 in
theorem x_Heap_movedWord (l : Launch) (dC : Nat → ClassId) (dI : Nat → Nat → Nat) (cI : ClassId) (adK adV adA u o g : Nat → Nat) (sz : Nat) (n : Nat) {i : Nat → Int32} {a : Nat → Nat → Int32} {v1 : Int32} {i2 : Nat → Int32} {a2 : Nat → Nat → Int32} {g2 : Nat → Nat} {k2 : Nat × Nat} {r2 : Int32} (hm : m_Heap_movedWord n g i a v1 = some (i2, a2, g2, k2, r2)) : Met l y_Heap_movedWord w_Heap_movedWord ({ frames := 3, cells := k2.1, slots := k2.2, locals := 84 } : Room) (va_Pc [.ref ((u 1)), .int v1] (xE dC dI cI adK adV adA u o g i a sz)) (va_Qi (xRg r2) (xBg dC dI cI u g2 i2 a2 (va_A (TW cI u o i a g) sz)) (va_A (TW cI u o i a g) sz)) k2.1 k2.2 ((va_A (TW cI u o i a g) sz)) := by
  refine Met.ofW (cc := b_Heap_movedWord) (maxL := 5) (ret := (some .int)) (by decide) rfl ?_
  intro p e s m args below meth c s₁ B hml hv
  obtain ⟨rfl, hsz, hP, hK, hE, hD0⟩ := hv
  have hx := B.exec
  have hb := B.bytes
  have hr := B.returns
  have hts := atoms_spec (ws := w_Heap_movedWord) B.pre
  have htt : ∀ w ∈ tw_T, w.before _ s = true := fun w h => hts w (List.mem_cons_of_mem _ h)
  have hown : s.vm.findClass R_Heap = some m.cls := findClass_of_methodNamed B.named
  have hlocks := B.notSynchronized
  subst hsz
  have hD := hD0.self (sz := s.heap.size)
  generalize hAe : (va_A (TW cI u o i a g) s.heap.size) = A at hD hE ⊢
  have hA : ∀ q : Nat, s.heap.size ≤ q → A q := fun q h => by rw [← hAe]; exact Or.inr h
  have hS : va_S A s.heap s.heap [] := va_S.rf
  obtain ⟨mc, ms, emc, ems⟩ : ∃ mc ms : Nat, k2.1 = mc ∧ k2.2 = ms := ⟨_, _, rfl, rfl⟩
  have hkc : 0 + k2.1 = mc := by rw [Nat.zero_add]; exact emc
  have hks : 0 + k2.2 = ms := by rw [Nat.zero_add]; exact ems
  rw [emc, ems]
  clear emc ems
  have hl := lv_entry ([.ref ((u 1)), .int v1]) (n := 5) (Nat.le_of_ble_eq_true rfl)
  rw [lg_entry_eq]
  generalize (lg_sl ([.ref ((u 1)), .int v1]) ++ List.replicate (5 - (lg_sl ([.ref ((u 1)), .int v1])).length) Slot.unset).toArray = ls at hl ⊢
  have hl : lv_has ls 5 [(0, .ref ((u 1))), (1, .int v1)] := hl
  rw [m_Heap_movedWord] at hm
  refine lv_aload_n hx hb d_Heap_movedWord_0 rfl (lv_at hl 0 rfl) ?_
  refine va_get (D := (dC, dI)) (ci := 1) (v := .ref ((o 0))) (C := R_Heap) (T := F_Heap) (N := 12) hx hb htt iw_Heap hown hK hP 1 xo_1 rfl 5 (Nat.le_of_ble_eq_true rfl) (htt _ lk_Heap_11) (fun _ h9 => h9) xg_1_5 d_Heap_movedWord_1 ?_
  refine lv_iload_n hx hb d_Heap_movedWord_4 rfl (lv_at hl 1 rfl) ?_
  refine lv_iconst (v := 1) hx hb d_Heap_movedWord_5 (by decide) ?_
  refine lv_isub hx hb d_Heap_movedWord_6 ?_
  obtain ⟨h_1, hm⟩ := ck_some hm
  refine va_iald hx hb hK hP 12 0 twA_0 rfl h_1 d_Heap_movedWord_7 ?_
  refine lv_topi (fun x_2 ex_2 => ?_)
  replace hm := ob1_at ex_2 hm
  refine lv_istore_n (lv' := [(2, .int x_2), (0, .ref ((u 1))), (1, .int v1)]) hx hb d_Heap_movedWord_8 rfl hl (by decide) rfl (fun ls hl => ?_)
  refine lv_iload_n hx hb d_Heap_movedWord_9 rfl (lv_at hl 0 rfl) ?_
  refine lv_if_ge (tgt := 20) hx hb d_Heap_movedWord_10 (by decide) (fun c_3 => ?_) (fun c_3 => ?_)
  · replace hm := if_t c_3 hm
    refine lv_aload_n hx hb d_Heap_movedWord_20 rfl (lv_at hl 1 rfl) ?_
    refine lv_iload_n hx hb d_Heap_movedWord_21 rfl (lv_at hl 2 rfl) ?_
    refine lv_iconst (v := 2) hx hb d_Heap_movedWord_22 (by decide) ?_
    refine lv_ishl hx hb d_Heap_movedWord_23 ?_
    refine lv_iconst (v := 3) hx hb d_Heap_movedWord_24 (by decide) ?_
    refine lv_ior hx hb d_Heap_movedWord_25 ?_
    obtain ⟨r_5, h_4, hm⟩ := ob0_some hm
    have hFc := x_free0 hS hA
    refine xg_calli (va_runV (As := [.int ((v1 <<< ((2 : Int32) &&& 31)) ||| 3)]) (rest := []) ⟨hx, hb, hml, hown, hts⟩ (x_Heap_size l dC dI cI adK adV adA u o g s.heap.size n h_4) (cwV 1 hts (tw_GV tw_cons cw_Heap_size lk_Heap_119 in_Heap_size sel_Heap_size ini_Heap) rfl rfl rfl ⟨rfl, hd_Heap_size⟩ ⟨Nat.le_of_ble_eq_true rfl, Nat.le_of_ble_eq_true rfl⟩) (xpVr hK hP hS hE hFc xo_1 rfl) rfl rfl hl.1 rfl (lv_room (Nat.le_of_ble_eq_true rfl)) d_Heap_movedWord_26 ⟨show 0 + 0 ≤ mc by omega, show 0 + 0 ≤ ms by omega⟩) hS (fun q _ h => hFc q h) hFc (fun kc_6 ks_7 r9 u9 t9 H locs ekc eks ht hvm e9 hB hz1 hk1 hS => ?_)
    replace hkc : kc_6 + k2.1 = mc := by omega
    replace hks : ks_7 + k2.2 = ms := by omega
    clear ekc eks
    have e9 : r_5 = r9 := e9
    subst e9
    replace hP := x_keep hP hk1
    clear hFc hk1 hz1 hvm hB ht
    refine lv_istore_n (lv' := [(3, .int r_5), (2, .int x_2), (0, .ref ((u 1))), (1, .int v1)]) hx hb d_Heap_movedWord_29 rfl hl (by decide) rfl (fun ls hl => ?_)
    refine lv_iload_n hx hb d_Heap_movedWord_30 rfl (lv_at hl 0 rfl) ?_
    refine lv_iconst (v := 1) hx hb d_Heap_movedWord_31 (by decide) ?_
    refine lv_iadd hx hb d_Heap_movedWord_32 ?_
    refine lv_aload_n hx hb d_Heap_movedWord_33 rfl (lv_at hl 2 rfl) ?_
    refine va_get (D := (dC, dI)) (ci := 1) (v := .ref ((o 0))) (C := R_Heap) (T := F_Heap) (N := 12) hx hb htt iw_Heap hown hK hP 1 xo_1 rfl 5 (Nat.le_of_ble_eq_true rfl) (htt _ lk_Heap_11) (fun _ h9 => h9) xg_1_5 d_Heap_movedWord_34 ?_
    refine va_alen (v := nI (g 0)) hx hb hK hP 12 0 twA_0 rfl rfl d_Heap_movedWord_37 ?_
    refine lv_iload_n hx hb d_Heap_movedWord_38 rfl (lv_at hl 3 rfl) ?_
    refine lv_isub hx hb d_Heap_movedWord_39 ?_
    refine lv_icmp_gt (tgt := 53) hx hb d_Heap_movedWord_40 (by decide) (fun c_8 => ?_) (fun c_8 => ?_)
    · replace hm := if_t c_8 hm
      refine lv_aload_n hx hb d_Heap_movedWord_53 rfl (lv_at hl 2 rfl) ?_
      refine va_get (D := (dC, dI)) (ci := 1) (v := .int (i 4)) (C := R_Heap) (T := F_Heap) (N := 12) hx hb htt iw_Heap hown hK hP 1 xo_1 rfl 1 (Nat.le_of_ble_eq_true rfl) (htt _ lk_Heap_41) (fun _ h9 => h9) xg_1_1 d_Heap_movedWord_54 ?_
      obtain ⟨e1, e2, e4, e5, e6, e3⟩ := re5 hm
      obtain ⟨hP, hD⟩ := x_eqg e1 e2 e4 hP hD
      refine W.widen (k := mc) (n := ms) (show kc_6 ≤ mc by omega) (show ks_7 ≤ ms by omega) ?_
      exact W.iret hx hb hr (fun t9 ht hW => ⟨⟨_, o, rfl, e3.symm, by rw [ht]; exact hP, hD⟩, hS.F ht⟩) hS.2.2 d_Heap_movedWord_57
    · replace hm := if_f c_8 hm
      refine lv_aload_n hx hb d_Heap_movedWord_43 rfl (lv_at hl 2 rfl) ?_
      refine lv_iload_n hx hb d_Heap_movedWord_44 rfl (lv_at hl 0 rfl) ?_
      refine lv_iconst (v := 2) hx hb d_Heap_movedWord_45 (by decide) ?_
      refine lv_iadd hx hb d_Heap_movedWord_46 ?_
      obtain ⟨i_10, a_11, g_12, k_13, r_14, k_15, h_9, hm, e7, e8⟩ := obG_some hm
      have hFc := x_free hD hS hA
      refine xg_calli (va_runV (As := [.int (r_5 + 2)]) (rest := []) ⟨hx, hb, hml, hown, hts⟩ (x_Heap_reserveSpare l dC dI cI adK adV adA u o g H.size n h_9) (cwV 1 hts (tw_GV tw_cons cw_Heap_reserveSpare lk_Heap_165 in_Heap_reserveSpare sel_Heap_reserveSpare ini_Heap) rfl rfl rfl ⟨rfl, hd_Heap_reserveSpare⟩ ⟨Nat.le_of_ble_eq_true rfl, Nat.le_of_ble_eq_true rfl⟩) (xpV hK hP hD hS hE hFc xo_1 rfl) rfl rfl hl.1 rfl (lv_room (Nat.le_of_ble_eq_true rfl)) d_Heap_movedWord_47 ⟨show kc_6 + k_13.1 ≤ mc by omega, show ks_7 + k_13.2 ≤ ms by omega⟩) hS (fun q _ h => hFc q h) hFc (fun kc_17 ks_18 r9 o_16 t9 H locs ekc eks ht hvm e9 hB hz1 hk1 hS => ?_)
      replace hkc : kc_17 + k_15.1 = mc := by omega
      replace hks : ks_18 + k_15.2 = ms := by omega
      clear e7 e8
      clear ekc eks
      have e9 : r_14 = r9 := e9
      subst e9
      obtain ⟨hP, hD⟩ := x_aftg hB ht hFc
      clear hFc hk1 hz1 hvm hB ht
      refine lv_if_ne (tgt := 58) hx hb d_Heap_movedWord_50 (by decide) (fun c_19 => ?_) (fun c_19 => ?_)
      · replace hm := if_f c_19 hm
        refine lv_aload_n hx hb d_Heap_movedWord_58 rfl (lv_at hl 2 rfl) ?_
        refine va_get (D := (dC, dI)) (ci := 1) (v := .int (i_10 9)) (C := R_Heap) (T := F_Heap) (N := 12) hx hb htt iw_Heap hown hK hP 1 xo_1 rfl 8 (Nat.le_of_ble_eq_true rfl) (htt _ lk_Heap_153) (fun _ h9 => h9) xg_1_8 d_Heap_movedWord_59 ?_
        refine lv_iconst (v := 1) hx hb d_Heap_movedWord_62 (by decide) ?_
        refine lv_iadd hx hb d_Heap_movedWord_63 ?_
        refine lv_topi (fun x_20 ex_20 => ?_)
        replace hm := ob1_at ex_20 hm
        refine lv_istore (lv' := [(4, .int x_20), (3, .int r_5), (2, .int x_2), (0, .ref ((u 1))), (1, .int v1)]) hx hb d_Heap_movedWord_64 hl (by decide) rfl (fun ls hl => ?_)
        refine lv_aload_n hx hb d_Heap_movedWord_66 rfl (lv_at hl 3 rfl) ?_
        refine va_get (D := (dC, dI)) (ci := 1) (v := .ref ((o_16 0))) (C := R_Heap) (T := F_Heap) (N := 12) hx hb htt iw_Heap hown hK hP 1 xo_1 rfl 5 (Nat.le_of_ble_eq_true rfl) (htt _ lk_Heap_11) (fun _ h9 => h9) xg_1_5 d_Heap_movedWord_67 ?_
        refine lv_iload_n hx hb d_Heap_movedWord_70 rfl (lv_at hl 4 rfl) ?_
        refine lv_aload_n hx hb d_Heap_movedWord_71 rfl (lv_at hl 3 rfl) ?_
        refine va_get (D := (dC, dI)) (ci := 1) (v := .ref ((o_16 1))) (C := R_Heap) (T := F_Heap) (N := 12) hx hb htt iw_Heap hown hK hP 1 xo_1 rfl 6 (Nat.le_of_ble_eq_true rfl) (htt _ lk_Heap_15) (fun _ h9 => h9) xg_1_6 d_Heap_movedWord_72 ?_
        refine lv_iload hx hb d_Heap_movedWord_75 (lv_at hl 0 rfl) ?_
        refine lv_iload_n hx hb d_Heap_movedWord_77 rfl (lv_at hl 1 rfl) ?_
        refine lv_iconst (v := 1) hx hb d_Heap_movedWord_78 (by decide) ?_
        refine lv_iadd hx hb d_Heap_movedWord_79 ?_
        obtain ⟨h_21a, h_21b, h_21c, h_21d, h_21e, hm⟩ := cy_some hm
        refine va_copyi hx hb (by rw [hml]; exact hl.1.symm) hown (htt _ lk_Heap_106) (htt _ na_arraycopy) (htt _ st_arraycopy) (htt _ ini_System) hK hP hD hS 12 13 0 0 (ty := .int) twA_0 twA_1 rfl rfl rfl h_21a h_21b h_21c h_21d h_21e (fun _ _ => rfl) (Nat.le_of_ble_eq_true rfl) (Nat.le_of_ble_eq_true rfl) d_Heap_movedWord_80 (fun H locs hP hD hS => ?_)
        obtain ⟨a_22, ea_22⟩ : ∃ y9 : Nat → Nat → Int32, y9 = updA a_11 1 (va_cpy (a_11 0) (a_11 1) v1.toNatClampNeg x_20.toNatClampNeg (r_5 + 1).toNatClampNeg) := ⟨_, rfl⟩
        replace hm := ob1_at ea_22 hm
        obtain ⟨hP, hD⟩ := xv_1 ea_22 hP hD
        refine lv_aload_n hx hb d_Heap_movedWord_83 rfl (lv_at hl 3 rfl) ?_
        refine va_get (D := (dC, dI)) (ci := 1) (v := .ref ((o_16 1))) (C := R_Heap) (T := F_Heap) (N := 12) hx hb htt iw_Heap hown hK hP 1 xo_1 rfl 6 (Nat.le_of_ble_eq_true rfl) (htt _ lk_Heap_15) (fun _ h9 => h9) xg_1_6 d_Heap_movedWord_84 ?_
        refine lv_iload hx hb d_Heap_movedWord_87 (lv_at hl 0 rfl) ?_
        refine lv_iconst (v := 1) hx hb d_Heap_movedWord_89 (by decide) ?_
        refine lv_isub hx hb d_Heap_movedWord_90 ?_
        refine lv_iload_n hx hb d_Heap_movedWord_91 rfl (lv_at hl 2 rfl) ?_
        refine lv_sipush (v := 128) hx hb d_Heap_movedWord_92 (by decide) ?_
        refine lv_icmp_lt (tgt := 102) hx hb d_Heap_movedWord_95 (by decide) (fun c_23 => ?_) (fun c_23 => ?_)
        · replace hm := if_t c_23 hm
          refine lv_sipush (v := 128) hx hb d_Heap_movedWord_102 (by decide) ?_
          refine lv_aload_n hx hb d_Heap_movedWord_105 rfl (lv_at hl 3 rfl) ?_
          refine va_get (D := (dC, dI)) (ci := 1) (v := .ref ((u 2))) (C := R_Heap) (T := F_Heap) (N := 12) hx hb htt iw_Heap hown hK hP 1 xo_1 rfl 0 (Nat.le_of_ble_eq_true rfl) (htt _ lk_Heap_31) (fun _ h9 => h9) xg_1_0 d_Heap_movedWord_106 ?_
          refine lv_aload_n hx hb d_Heap_movedWord_109 rfl (lv_at hl 3 rfl) ?_
          refine va_get (D := (dC, dI)) (ci := 1) (v := .ref ((o_16 1))) (C := R_Heap) (T := F_Heap) (N := 12) hx hb htt iw_Heap hown hK hP 1 xo_1 rfl 6 (Nat.le_of_ble_eq_true rfl) (htt _ lk_Heap_15) (fun _ h9 => h9) xg_1_6 d_Heap_movedWord_110 ?_
          refine lv_iload hx hb d_Heap_movedWord_113 (lv_at hl 0 rfl) ?_
          obtain ⟨r_25, h_24, hm⟩ := ob0_some hm
          have hFc := x_free0 hS hA
          refine xg_calli (va_runV (As := [.ref ((o_16 1)), .int x_20]) (rest := [.int 128, .int (x_20 - 1), .ref ((o_16 1))]) ⟨hx, hb, hml, hown, hts⟩ (x_Lexicon_meaning_a1 l dC dI cI adK adV adA u o_16 g_12 H.size n h_24) (cwV 2 hts (tw_GV tw_cons cw_Lexicon_meaning lk_Heap_112 in_Lexicon_meaning sel_Lexicon_meaning ini_Lexicon) rfl rfl rfl ⟨rfl, hd_Lexicon_meaning⟩ ⟨Nat.le_of_ble_eq_true rfl, Nat.le_of_ble_eq_true rfl⟩) (xpVr hK hP hS hE hFc xo_2 rfl) rfl rfl hl.1 rfl (lv_room (Nat.le_of_ble_eq_true rfl)) d_Heap_movedWord_115 ⟨show kc_17 + 0 ≤ mc by omega, show ks_18 + 0 ≤ ms by omega⟩) hS (fun q _ h => hFc q h) hFc (fun kc_26 ks_27 r9 u9 t9 H locs ekc eks ht hvm e9 hB hz1 hk1 hS => ?_)
          replace hkc : kc_26 + k_15.1 = mc := by omega
          replace hks : ks_27 + k_15.2 = ms := by omega
          clear ekc eks
          have e9 : r_25 = r9 := e9
          subst e9
          replace hP := x_keep hP hk1
          clear hFc hk1 hz1 hvm hB ht
          refine lv_iadd hx hb d_Heap_movedWord_118 ?_
          exact lb_Heap_movedWord_119 l dC dI cI adK adV adA u n hx hb hml hown hts hK hE hA hr hlocks _ _ _ _ _ _ _ _ _ _ hm o_16 kc_26 ks_27 hkc hks _ _ _ hP hD hS (lv_sub hl [3, 4, 2, 1, 0] rfl)
        · replace hm := if_f c_23 hm
          refine lv_iload_n hx hb d_Heap_movedWord_98 rfl (lv_at hl 2 rfl) ?_
          refine lv_goto (tgt := 119) hx hb d_Heap_movedWord_99 (by decide) ?_
          exact lb_Heap_movedWord_119 l dC dI cI adK adV adA u n hx hb hml hown hts hK hE hA hr hlocks _ _ _ _ _ _ _ _ _ _ hm o_16 kc_17 ks_18 hkc hks _ _ _ hP hD hS (lv_sub hl [3, 4, 2, 1, 0] rfl)
      · replace hm := if_t c_19 hm
        refine lv_aload_n hx hb d_Heap_movedWord_53 rfl (lv_at hl 2 rfl) ?_
        refine va_get (D := (dC, dI)) (ci := 1) (v := .int (i_10 4)) (C := R_Heap) (T := F_Heap) (N := 12) hx hb htt iw_Heap hown hK hP 1 xo_1 rfl 1 (Nat.le_of_ble_eq_true rfl) (htt _ lk_Heap_41) (fun _ h9 => h9) xg_1_1 d_Heap_movedWord_54 ?_
        obtain ⟨e1, e2, e4, e5, e6, e3⟩ := re5 hm
        obtain ⟨hP, hD⟩ := x_eqg e1 e2 e4 hP hD
        refine W.widen (k := mc) (n := ms) (show kc_17 ≤ mc by omega) (show ks_18 ≤ ms by omega) ?_
        exact W.iret hx hb hr (fun t9 ht hW => ⟨⟨_, o_16, rfl, e3.symm, by rw [ht]; exact hP, hD⟩, hS.F ht⟩) hS.2.2 d_Heap_movedWord_57
  · replace hm := if_f c_3 hm
    refine lv_iload_n hx hb d_Heap_movedWord_13 rfl (lv_at hl 0 rfl) ?_
    refine lv_ineg hx hb d_Heap_movedWord_14 ?_
    refine lv_iconst (v := 2) hx hb d_Heap_movedWord_15 (by decide) ?_
    refine lv_ishl hx hb d_Heap_movedWord_16 ?_
    refine lv_iconst (v := 3) hx hb d_Heap_movedWord_17 (by decide) ?_
    refine lv_ior hx hb d_Heap_movedWord_18 ?_
    obtain ⟨e1, e2, e4, e5, e6, e3⟩ := re5 hm
    obtain ⟨hP, hD⟩ := x_eqg e1 e2 e4 hP hD
    refine W.widen (k := mc) (n := ms) (show 0 ≤ mc by omega) (show 0 ≤ ms by omega) ?_
    exact W.iret hx hb hr (fun t9 ht hW => ⟨⟨_, o, rfl, e3.symm, by rw [ht]; exact hP, hD⟩, hS.F ht⟩) hS.2.2 d_Heap_movedWord_19

def m_Math_min2 (n : Nat) (v0 : Int64) (v2 : Int64) : Option (Int64) := if ((0 : Int32)) < ((lg_cmp v0 v2)) then some v2 else some v0
set_option maxHeartbeats 4000000 in
set_option maxRecDepth 100000 in
theorem x_Math_min2 (l : Launch) (sz : Nat) (n : Nat) {v0 : Int64} {v2 : Int64} {r2 : Int64} (hm : m_Math_min2 n v0 v2 = some r2) : Met l y_Math_min2 w_Math_min2 ({ frames := 0, cells := 0, slots := 0, locals := 0 } : Room) (va_Pc [.long v0, .long v2] (xE0 sz)) (va_Ql (xR r2) xT (xN sz)) 0 0 (xN sz) := by
  refine mt_ofW (cc := b_Math_min2) (maxL := 4) (ret := (some .long)) (by decide +kernel) rfl ?_
  intro p e s m args below meth c s₁ B hml hv
  obtain ⟨rfl, hsz⟩ := hv
  have hx := B.exec
  have hb := B.bytes
  have hr := B.returns
  have hts := atoms_spec (ws := w_Math_min2) B.pre
  have htt : ∀ w ∈ tw_T, w.before _ s = true := fun w h => hts w (List.mem_cons_of_mem _ h)
  have hown : s.vm.findClass "java/lang/Math" = some m.cls := findClass_of_methodNamed B.named
  have hlocks := B.notSynchronized
  subst hsz
  generalize hAe : xN s.heap.size = A
  have hA : ∀ q : Nat, s.heap.size ≤ q → A q := fun q h => by rw [← hAe]; exact Or.inr h
  have hS : va_S A s.heap s.heap [] := va_S.rf
  have hl := lv_entry ([.long v0, .long v2]) (n := 4) (Nat.le_of_ble_eq_true rfl)
  rw [lg_entry_eq]
  generalize (lg_sl ([.long v0, .long v2]) ++ List.replicate (4 - (lg_sl ([.long v0, .long v2])).length) Slot.unset).toArray = ls at hl ⊢
  have hl : lv_has ls 4 [(0, .long v0), (2, .long v2)] := hl
  rw [m_Math_min2] at hm
  refine lv_lload_n hx hb d_Math_min2_0 rfl (lv_at hl 0 rfl) ?_
  refine lv_lload_n hx hb d_Math_min2_1 rfl (lv_at hl 1 rfl) ?_
  refine W.lcmp hx hb d_Math_min2_2 ?_
  refine lv_if_gt (tgt := 10) hx hb d_Math_min2_3 (by decide) (fun c_1 => ?_) (fun c_1 => ?_)
  · replace hm := if_t c_1 hm
    refine lv_lload_n hx hb d_Math_min2_10 rfl (lv_at hl 1 rfl) ?_
    have e3 := re1 hm
    exact W.lret hx hb hr (fun t9 ht hW => ⟨⟨_, (), rfl, e3.symm, trivial⟩, hS.F ht⟩) hS.2.2 d_Math_min2_11
  · replace hm := if_f c_1 hm
    refine lv_lload_n hx hb d_Math_min2_6 rfl (lv_at hl 0 rfl) ?_
    refine lv_goto (tgt := 11) hx hb d_Math_min2_7 (by decide) ?_
    have e3 := re1 hm
    exact W.lret hx hb hr (fun t9 ht hW => ⟨⟨_, (), rfl, e3.symm, trivial⟩, hS.F ht⟩) hS.2.2 d_Math_min2_11

def m_Heap_numberIn_a0_b40 (n : Nat) (g : Nat → Nat) (i : Nat → Int32) (a : Nat → Nat → Int32) : Nat → Int32 → Int32 → Int32 → Int64 → Int32 → Option (Int32)
  | 0, _, _, _, _, _ => none
  | f + 1, v1, v2, v3, v4, v6 => if v2 ≤ v6 then if v3 = v2 then some ((-2147483648)) else if ((lg_cmp v4 1000000000)) ≤ ((0 : Int32)) then if v3 ≤ v1 then ob0 (m_Heap_number n v4.toInt32) (fun r_6 => some r_6) else ob0 (m_Heap_number n ((-v4).toInt32)) (fun r_8 => some r_8) else some ((-2147483639)) else ck v6 (g 0) (ob1 ((a 0 v6.toNatClampNeg) - 48 : Int32) (fun x_10 => if x_10 < ((0 : Int32)) then some ((-2147483648)) else if x_10 ≤ ((9 : Int32)) then ob0 (m_Math_min2 n ((10 * v4) + x_10.toInt64) (1000000001 : Int64)) (fun r_14 => ob1 (v6 + 1 : Int32) (fun x_15 => m_Heap_numberIn_a0_b40 n g i a f v1 v2 v3 r_14 x_15)) else some ((-2147483648))))
set_option maxHeartbeats 4000000 in
set_option maxRecDepth 100000 in
theorem lb_Heap_numberIn_a0_40 (l : Launch) (dC : Nat → ClassId) (dI : Nat → Nat → Nat) (cI : ClassId) (adK adV adA u o g : Nat → Nat) (n : Nat) {p : Program} {e : Env} {s : State} {m : MethodId} {args : Array Value} {below : List Frame} {meth : Method} {c : Code} {A : Nat → Prop} (hx : p.tables.exec = Jvm.exec) (hb : c.code = b_Heap_numberIn) (hml : c.maxLocals = 8) (hown : s.vm.findClass R_Heap = some m.cls) (hts : ∀ w ∈ w_Heap_numberIn, w.before args s = true) (hK : va_K (dC, dI) classes [(cI, .int)] s) (hE : tw_E adK adV adA A s s.heap) (hA : ∀ q : Nat, s.heap.size ≤ q → A q) (hr : meth.sig.returnType = (some .int)) (hlocks : meth.locks = false) {i : Nat → Int32} {a : Nat → Nat → Int32} {r2 : Int32} : ∀ (f : Nat) (v1 : Int32) (v2 : Int32) (v3 : Int32) (v4 : Int64) (v6 : Int32), m_Heap_numberIn_a0_b40 n g i a f v1 v2 v3 v4 v6 = some r2 → ∀ (H : Heap) (locs : List Loc) (ls : Array Slot), va_P (dC, dI) classes (TW cI u o i a g) H → va_S A s.heap H locs → lv_has ls 8 [(0, .ref ((o 0))), (1, .int v1), (2, .int v2), (3, .int v3), (4, .long v4), (6, .int v6)] → W p l e ({ frames := 1, cells := 0, slots := 0, locals := 23 } : Room) s m args below meth c H locs 0 0 (MQ below (va_Qi (xR r2) xT A) args s 0 0 A) (F0 m 40 ls []) := by
  have htt : ∀ w ∈ tw_T, w.before _ s = true := fun w h => hts w (List.mem_cons_of_mem _ h)
  intro f
  induction f with
  | zero =>
    intro v1 v2 v3 v4 v6 hm
    rw [m_Heap_numberIn_a0_b40] at hm
    cases hm
  | succ f ih =>
    intro v1 v2 v3 v4 v6 hm H locs ls hP hS hl
    rw [m_Heap_numberIn_a0_b40] at hm
    refine lv_iload hx hb d_Heap_numberIn_40 (lv_at hl 5 rfl) ?_
    refine lv_iload_n hx hb d_Heap_numberIn_42 rfl (lv_at hl 2 rfl) ?_
    refine lv_icmp_ge (tgt := 94) hx hb d_Heap_numberIn_43 (by decide) (fun c_1 => ?_) (fun c_1 => ?_)
    · replace hm := if_t c_1 hm
      refine lv_iload_n hx hb d_Heap_numberIn_94 rfl (lv_at hl 3 rfl) ?_
      refine lv_iload_n hx hb d_Heap_numberIn_95 rfl (lv_at hl 2 rfl) ?_
      refine lv_icmp_ne (tgt := 102) hx hb d_Heap_numberIn_96 (by decide) (fun c_2 => ?_) (fun c_2 => ?_)
      · replace hm := if_f c_2 hm
        refine lv_lload hx hb d_Heap_numberIn_102 (lv_at hl 4 rfl) ?_
        refine lv_ldc2 (v := 1000000000) hx hb hown (htt _ lk_Heap_82) d_Heap_numberIn_104 ?_
        refine W.lcmp hx hb d_Heap_numberIn_107 ?_
        refine lv_if_le (tgt := 114) hx hb d_Heap_numberIn_108 (by decide) (fun c_3 => ?_) (fun c_3 => ?_)
        · replace hm := if_t c_3 hm
          refine lv_iload_n hx hb d_Heap_numberIn_114 rfl (lv_at hl 3 rfl) ?_
          refine lv_iload_n hx hb d_Heap_numberIn_115 rfl (lv_at hl 1 rfl) ?_
          refine lv_icmp_le (tgt := 125) hx hb d_Heap_numberIn_116 (by decide) (fun c_4 => ?_) (fun c_4 => ?_)
          · replace hm := if_t c_4 hm
            refine lv_lload hx hb d_Heap_numberIn_125 (lv_at hl 4 rfl) ?_
            refine lv_l2i hx hb d_Heap_numberIn_127 rfl ?_
            obtain ⟨r_6, h_5, hm⟩ := ob0_some hm
            have hFc := x_free0 hS hA
            refine va_calli (va_runS (As := [.int v4.toInt32]) (rest := []) ⟨hx, hb, hml, hown, hts⟩ (x_Heap_number l H.size n h_5) (va_cwS 1 hts (tw_GS tw_cons cw_Heap_number lk_Heap_85 st_Heap_number ini_Heap) rfl rfl rfl hd_Heap_number ⟨Nat.le_of_ble_eq_true rfl, Nat.le_of_ble_eq_true rfl⟩) xpS0 rfl rfl hl.1 rfl (lv_room (Nat.le_of_ble_eq_true rfl)) d_Heap_numberIn_128 ⟨Nat.le_of_ble_eq_true rfl, Nat.le_of_ble_eq_true rfl⟩) hS (fun q _ h => hFc q h) hFc (fun r9 u9 t9 H locs ht hvm e9 hB hz1 hk1 hS => ?_)
            have e9 : r_6 = r9 := e9
            subst e9
            replace hP := x_keep hP hk1
            clear hFc hk1 hz1 hvm hB ht
            have e3 := re1 hm
            exact W.iret hx hb hr (fun t9 ht hW => ⟨⟨_, (), rfl, e3.symm, trivial⟩, hS.F ht⟩) hS.2.2 d_Heap_numberIn_131
          · replace hm := if_f c_4 hm
            refine lv_lload hx hb d_Heap_numberIn_119 (lv_at hl 4 rfl) ?_
            refine lv_lneg hx hb d_Heap_numberIn_121 ?_
            refine lv_goto (tgt := 127) hx hb d_Heap_numberIn_122 (by decide) ?_
            refine lv_l2i hx hb d_Heap_numberIn_127 rfl ?_
            obtain ⟨r_8, h_7, hm⟩ := ob0_some hm
            have hFc := x_free0 hS hA
            refine va_calli (va_runS (As := [.int ((-v4).toInt32)]) (rest := []) ⟨hx, hb, hml, hown, hts⟩ (x_Heap_number l H.size n h_7) (va_cwS 1 hts (tw_GS tw_cons cw_Heap_number lk_Heap_85 st_Heap_number ini_Heap) rfl rfl rfl hd_Heap_number ⟨Nat.le_of_ble_eq_true rfl, Nat.le_of_ble_eq_true rfl⟩) xpS0 rfl rfl hl.1 rfl (lv_room (Nat.le_of_ble_eq_true rfl)) d_Heap_numberIn_128 ⟨Nat.le_of_ble_eq_true rfl, Nat.le_of_ble_eq_true rfl⟩) hS (fun q _ h => hFc q h) hFc (fun r9 u9 t9 H locs ht hvm e9 hB hz1 hk1 hS => ?_)
            have e9 : r_8 = r9 := e9
            subst e9
            replace hP := x_keep hP hk1
            clear hFc hk1 hz1 hvm hB ht
            have e3 := re1 hm
            exact W.iret hx hb hr (fun t9 ht hW => ⟨⟨_, (), rfl, e3.symm, trivial⟩, hS.F ht⟩) hS.2.2 d_Heap_numberIn_131
        · replace hm := if_f c_3 hm
          refine lv_ldc (v := (-2147483639)) hx hb hown (htt _ lk_Heap_84) d_Heap_numberIn_111 ?_
          have e3 := re1 hm
          exact W.iret hx hb hr (fun t9 ht hW => ⟨⟨_, (), rfl, e3.symm, trivial⟩, hS.F ht⟩) hS.2.2 d_Heap_numberIn_113
      · replace hm := if_t c_2 hm
        refine lv_ldc (v := (-2147483648)) hx hb hown (htt _ lk_Heap_71) d_Heap_numberIn_99 ?_
        have e3 := re1 hm
        exact W.iret hx hb hr (fun t9 ht hW => ⟨⟨_, (), rfl, e3.symm, trivial⟩, hS.F ht⟩) hS.2.2 d_Heap_numberIn_101
    · replace hm := if_f c_1 hm
      refine lv_aload_n hx hb d_Heap_numberIn_46 rfl (lv_at hl 0 rfl) ?_
      refine lv_iload hx hb d_Heap_numberIn_47 (lv_at hl 5 rfl) ?_
      obtain ⟨h_9, hm⟩ := ck_some hm
      refine va_iald hx hb hK hP 12 0 twA_0 rfl h_9 d_Heap_numberIn_49 ?_
      refine lv_bipush (v := 48) hx hb d_Heap_numberIn_50 (by decide) ?_
      refine lv_isub hx hb d_Heap_numberIn_52 ?_
      refine lv_topi (fun x_10 ex_10 => ?_)
      replace hm := ob1_at ex_10 hm
      refine lv_istore (lv' := [(7, .int x_10), (0, .ref ((o 0))), (1, .int v1), (2, .int v2), (3, .int v3), (4, .long v4), (6, .int v6)]) hx hb d_Heap_numberIn_53 hl (by decide) rfl (fun ls hl => ?_)
      refine lv_iload hx hb d_Heap_numberIn_55 (lv_at hl 0 rfl) ?_
      refine lv_if_lt (tgt := 67) hx hb d_Heap_numberIn_57 (by decide) (fun c_11 => ?_) (fun c_11 => ?_)
      · replace hm := if_t c_11 hm
        refine lv_ldc (v := (-2147483648)) hx hb hown (htt _ lk_Heap_71) d_Heap_numberIn_67 ?_
        have e3 := re1 hm
        exact W.iret hx hb hr (fun t9 ht hW => ⟨⟨_, (), rfl, e3.symm, trivial⟩, hS.F ht⟩) hS.2.2 d_Heap_numberIn_69
      · replace hm := if_f c_11 hm
        refine lv_iload hx hb d_Heap_numberIn_60 (lv_at hl 0 rfl) ?_
        refine lv_bipush (v := 9) hx hb d_Heap_numberIn_62 (by decide) ?_
        refine lv_icmp_le (tgt := 70) hx hb d_Heap_numberIn_64 (by decide) (fun c_12 => ?_) (fun c_12 => ?_)
        · replace hm := if_t c_12 hm
          refine lv_ldc2 (v := 10) hx hb hown (htt _ lk_Heap_72) d_Heap_numberIn_70 ?_
          refine lv_lload hx hb d_Heap_numberIn_73 (lv_at hl 5 rfl) ?_
          refine lv_lmul hx hb d_Heap_numberIn_75 ?_
          refine lv_iload hx hb d_Heap_numberIn_76 (lv_at hl 0 rfl) ?_
          refine lv_i2l hx hb d_Heap_numberIn_78 rfl ?_
          refine lv_ladd hx hb d_Heap_numberIn_79 ?_
          refine lv_ldc2 (v := 1000000001) hx hb hown (htt _ lk_Heap_74) d_Heap_numberIn_80 ?_
          obtain ⟨r_14, h_13, hm⟩ := ob0_some hm
          have hFc := x_free0 hS hA
          refine va_calll (va_runS (As := [.long ((10 * v4) + x_10.toInt64), .long 1000000001]) (rest := []) ⟨hx, hb, hml, hown, hts⟩ (x_Math_min2 l H.size n h_13) (va_cwS 2 hts (tw_GS tw_cons cw_Math_min2 lk_Heap_76 st_Math_min2 ini_Math) rfl rfl rfl hd_Math_min2 ⟨Nat.le_of_ble_eq_true rfl, Nat.le_of_ble_eq_true rfl⟩) xpS0 rfl rfl hl.1 rfl (lv_room (Nat.le_of_ble_eq_true rfl)) d_Heap_numberIn_83 ⟨Nat.le_of_ble_eq_true rfl, Nat.le_of_ble_eq_true rfl⟩) hS (fun q _ h => hFc q h) hFc (fun r9 u9 t9 H locs ht hvm e9 hB hz1 hk1 hS => ?_)
          have e9 : r_14 = r9 := e9
          subst e9
          replace hP := x_keep hP hk1
          clear hFc hk1 hz1 hvm hB ht
          refine lv_lstore (lv' := [(4, .long r_14), (7, .int x_10), (0, .ref ((o 0))), (1, .int v1), (2, .int v2), (3, .int v3), (6, .int v6)]) hx hb d_Heap_numberIn_86 hl (by decide) rfl (fun ls hl => ?_)
          obtain ⟨x_15, ex_15⟩ : ∃ y9 : Int32, y9 = v6 + 1 := ⟨_, rfl⟩
          replace hm := ob1_at ex_15 hm
          refine lv_iinc (v := x_15) (lv' := [(6, .int x_15), (4, .long r_14), (7, .int x_10), (0, .ref ((o 0))), (1, .int v1), (2, .int v2), (3, .int v3)]) hx hb d_Heap_numberIn_88 hl (k := 6) rfl (by rw [ex_15]; rfl) (by decide) rfl (fun ls hl => ?_)
          refine lv_goto (tgt := 40) hx hb d_Heap_numberIn_91 (by decide) ?_
          exact ih _ _ _ _ _ hm _ _ _ hP hS (lv_sub hl [3, 4, 5, 6, 1, 0] rfl)
        · replace hm := if_f c_12 hm
          refine lv_ldc (v := (-2147483648)) hx hb hown (htt _ lk_Heap_71) d_Heap_numberIn_67 ?_
          have e3 := re1 hm
          exact W.iret hx hb hr (fun t9 ht hW => ⟨⟨_, (), rfl, e3.symm, trivial⟩, hS.F ht⟩) hS.2.2 d_Heap_numberIn_69
def m_Heap_numberIn_a0_b33 (n : Nat) (g : Nat → Nat) (i : Nat → Int32) (a : Nat → Nat → Int32) (v1 : Int32) (v2 : Int32) (s0 : Int32) : Option (Int32) := m_Heap_numberIn_a0_b40 n g i a n v1 v2 s0 (0 : Int64) s0
set_option maxHeartbeats 4000000 in
set_option maxRecDepth 100000 in
theorem lb_Heap_numberIn_a0_33 (l : Launch) (dC : Nat → ClassId) (dI : Nat → Nat → Nat) (cI : ClassId) (adK adV adA u o g : Nat → Nat) (n : Nat) {p : Program} {e : Env} {s : State} {m : MethodId} {args : Array Value} {below : List Frame} {meth : Method} {c : Code} {A : Nat → Prop} (hx : p.tables.exec = Jvm.exec) (hb : c.code = b_Heap_numberIn) (hml : c.maxLocals = 8) (hown : s.vm.findClass R_Heap = some m.cls) (hts : ∀ w ∈ w_Heap_numberIn, w.before args s = true) (hK : va_K (dC, dI) classes [(cI, .int)] s) (hE : tw_E adK adV adA A s s.heap) (hA : ∀ q : Nat, s.heap.size ≤ q → A q) (hr : meth.sig.returnType = (some .int)) (hlocks : meth.locks = false) {i : Nat → Int32} {a : Nat → Nat → Int32} {r2 : Int32} (v1 : Int32) (v2 : Int32) (s0 : Int32) (hm : m_Heap_numberIn_a0_b33 n g i a v1 v2 s0 = some r2) : ∀ (H : Heap) (locs : List Loc) (ls : Array Slot), va_P (dC, dI) classes (TW cI u o i a g) H → va_S A s.heap H locs → lv_has ls 8 [(0, .ref ((o 0))), (1, .int v1), (2, .int v2)] → W p l e ({ frames := 1, cells := 0, slots := 0, locals := 23 } : Room) s m args below meth c H locs 0 0 (MQ below (va_Qi (xR r2) xT A) args s 0 0 A) (F0 m 33 ls [.int s0]) := by
  have htt : ∀ w ∈ tw_T, w.before _ s = true := fun w h => hts w (List.mem_cons_of_mem _ h)
  intro H locs ls hP hS hl
  rw [m_Heap_numberIn_a0_b33] at hm
  refine lv_istore_n (lv' := [(3, .int s0), (0, .ref ((o 0))), (1, .int v1), (2, .int v2)]) hx hb d_Heap_numberIn_33 rfl hl (by decide) rfl (fun ls hl => ?_)
  refine lv_lconst (v := 0) hx hb d_Heap_numberIn_34 (by decide) ?_
  refine lv_lstore (lv' := [(4, .long 0), (3, .int s0), (0, .ref ((o 0))), (1, .int v1), (2, .int v2)]) hx hb d_Heap_numberIn_35 hl (by decide) rfl (fun ls hl => ?_)
  refine lv_iload_n hx hb d_Heap_numberIn_37 rfl (lv_at hl 1 rfl) ?_
  refine lv_istore (lv' := [(6, .int s0), (4, .long 0), (3, .int s0), (0, .ref ((o 0))), (1, .int v1), (2, .int v2)]) hx hb d_Heap_numberIn_38 hl (by decide) rfl (fun ls hl => ?_)
  exact lb_Heap_numberIn_a0_40 l dC dI cI adK adV adA u o g n hx hb hml hown hts hK hE hA hr hlocks n _ _ _ _ _ hm _ _ _ hP hS (lv_sub hl [3, 4, 5, 2, 1, 0] rfl)
def m_Heap_numberIn_a0 (n : Nat) (g : Nat → Nat) (i : Nat → Int32) (a : Nat → Nat → Int32) (v1 : Int32) (v2 : Int32) : Option (Int32) := if v1 < ((0 : Int32)) then some ((-2147483648)) else if ((nI (g 0))) < v2 then some ((-2147483648)) else if v1 < v2 then ck v1 (g 0) (if ((a 0 v1.toNatClampNeg)) = ((45 : Int32)) then m_Heap_numberIn_a0_b33 n g i a v1 v2 (v1 + 1) else m_Heap_numberIn_a0_b33 n g i a v1 v2 v1) else some ((-2147483648))
set_option maxHeartbeats 4000000 in
set_option maxRecDepth 100000 in
theorem x_Heap_numberIn_a0 (l : Launch) (dC : Nat → ClassId) (dI : Nat → Nat → Nat) (cI : ClassId) (adK adV adA u o g : Nat → Nat) (sz : Nat) (n : Nat) {i : Nat → Int32} {a : Nat → Nat → Int32} {v1 : Int32} {v2 : Int32} {r2 : Int32} (hm : m_Heap_numberIn_a0 n g i a v1 v2 = some r2) : Met l y_Heap_numberIn w_Heap_numberIn ({ frames := 1, cells := 0, slots := 0, locals := 23 } : Room) (va_Pc [.ref ((o 0)), .int v1, .int v2] (xEr dC dI cI adK adV adA u o g i a sz)) (va_Qi (xR r2) xT (xN sz)) 0 0 (xN sz) := by
  refine Met.ofW (cc := b_Heap_numberIn) (maxL := 8) (ret := (some .int)) (by decide) rfl ?_
  intro p e s m args below meth c s₁ B hml hv
  obtain ⟨rfl, hsz, hP, hK, hE⟩ := hv
  have hx := B.exec
  have hb := B.bytes
  have hr := B.returns
  have hts := atoms_spec (ws := w_Heap_numberIn) B.pre
  have htt : ∀ w ∈ tw_T, w.before _ s = true := fun w h => hts w (List.mem_cons_of_mem _ h)
  have hown : s.vm.findClass R_Heap = some m.cls := findClass_of_methodNamed B.named
  have hlocks := B.notSynchronized
  subst hsz
  generalize hAe : xN s.heap.size = A at hE ⊢
  have hA : ∀ q : Nat, s.heap.size ≤ q → A q := fun q h => by rw [← hAe]; exact Or.inr h
  have hS : va_S A s.heap s.heap [] := va_S.rf
  have hl := lv_entry ([.ref ((o 0)), .int v1, .int v2]) (n := 8) (Nat.le_of_ble_eq_true rfl)
  rw [lg_entry_eq]
  generalize (lg_sl ([.ref ((o 0)), .int v1, .int v2]) ++ List.replicate (8 - (lg_sl ([.ref ((o 0)), .int v1, .int v2])).length) Slot.unset).toArray = ls at hl ⊢
  have hl : lv_has ls 8 [(0, .ref ((o 0))), (1, .int v1), (2, .int v2)] := hl
  rw [m_Heap_numberIn_a0] at hm
  refine lv_iload_n hx hb d_Heap_numberIn_0 rfl (lv_at hl 1 rfl) ?_
  refine lv_if_lt (tgt := 15) hx hb d_Heap_numberIn_1 (by decide) (fun c_1 => ?_) (fun c_1 => ?_)
  · replace hm := if_t c_1 hm
    refine lv_ldc (v := (-2147483648)) hx hb hown (htt _ lk_Heap_71) d_Heap_numberIn_15 ?_
    have e3 := re1 hm
    exact W.iret hx hb hr (fun t9 ht hW => ⟨⟨_, (), rfl, e3.symm, trivial⟩, hS.F ht⟩) hS.2.2 d_Heap_numberIn_17
  · replace hm := if_f c_1 hm
    refine lv_iload_n hx hb d_Heap_numberIn_4 rfl (lv_at hl 2 rfl) ?_
    refine lv_aload_n hx hb d_Heap_numberIn_5 rfl (lv_at hl 0 rfl) ?_
    refine va_alen (v := nI (g 0)) hx hb hK hP 12 0 twA_0 rfl rfl d_Heap_numberIn_6 ?_
    refine lv_icmp_gt (tgt := 15) hx hb d_Heap_numberIn_7 (by decide) (fun c_2 => ?_) (fun c_2 => ?_)
    · replace hm := if_t c_2 hm
      refine lv_ldc (v := (-2147483648)) hx hb hown (htt _ lk_Heap_71) d_Heap_numberIn_15 ?_
      have e3 := re1 hm
      exact W.iret hx hb hr (fun t9 ht hW => ⟨⟨_, (), rfl, e3.symm, trivial⟩, hS.F ht⟩) hS.2.2 d_Heap_numberIn_17
    · replace hm := if_f c_2 hm
      refine lv_iload_n hx hb d_Heap_numberIn_10 rfl (lv_at hl 1 rfl) ?_
      refine lv_iload_n hx hb d_Heap_numberIn_11 rfl (lv_at hl 2 rfl) ?_
      refine lv_icmp_lt (tgt := 18) hx hb d_Heap_numberIn_12 (by decide) (fun c_3 => ?_) (fun c_3 => ?_)
      · replace hm := if_t c_3 hm
        refine lv_aload_n hx hb d_Heap_numberIn_18 rfl (lv_at hl 0 rfl) ?_
        refine lv_iload_n hx hb d_Heap_numberIn_19 rfl (lv_at hl 1 rfl) ?_
        obtain ⟨h_4, hm⟩ := ck_some hm
        refine va_iald hx hb hK hP 12 0 twA_0 rfl h_4 d_Heap_numberIn_20 ?_
        refine lv_bipush (v := 45) hx hb d_Heap_numberIn_21 (by decide) ?_
        refine lv_icmp_ne (tgt := 32) hx hb d_Heap_numberIn_23 (by decide) (fun c_5 => ?_) (fun c_5 => ?_)
        · replace hm := if_f c_5 hm
          refine lv_iload_n hx hb d_Heap_numberIn_32 rfl (lv_at hl 1 rfl) ?_
          exact lb_Heap_numberIn_a0_33 l dC dI cI adK adV adA u o g n hx hb hml hown hts hK hE hA hr hlocks _ _ _ hm _ _ _ hP hS (lv_sub hl [0, 1, 2] rfl)
        · replace hm := if_t c_5 hm
          refine lv_iload_n hx hb d_Heap_numberIn_26 rfl (lv_at hl 1 rfl) ?_
          refine lv_iconst (v := 1) hx hb d_Heap_numberIn_27 (by decide) ?_
          refine lv_iadd hx hb d_Heap_numberIn_28 ?_
          refine lv_goto (tgt := 33) hx hb d_Heap_numberIn_29 (by decide) ?_
          exact lb_Heap_numberIn_a0_33 l dC dI cI adK adV adA u o g n hx hb hml hown hts hK hE hA hr hlocks _ _ _ hm _ _ _ hP hS (lv_sub hl [0, 1, 2] rfl)
      · replace hm := if_f c_3 hm
        refine lv_ldc (v := (-2147483648)) hx hb hown (htt _ lk_Heap_71) d_Heap_numberIn_15 ?_
        have e3 := re1 hm
        exact W.iret hx hb hr (fun t9 ht hW => ⟨⟨_, (), rfl, e3.symm, trivial⟩, hS.F ht⟩) hS.2.2 d_Heap_numberIn_17

def m_Heap_quoted (n : Nat) (g : Nat → Nat) (i : Nat → Int32) (a : Nat → Nat → Int32) (v1 : Int32) : Option (Int32) := ob0 (m_Heap_behind n g i a v1) (fun r_2 => if r_2 = ((-2147483648 : Int32)) then some ((-2147483645)) else ob1 (r_2 >>> ((2 : Int32) &&& 31) : Int32) (fun x_4 => ck x_4 (g 0) (if ((a 0 x_4.toNatClampNeg)) ≤ ((57 : Int32)) then ob0 (m_Heap_size n g i a r_2) (fun r_8 => ob0 (m_Heap_numberIn_a0 n g i a x_4 (x_4 + r_8)) (fun r_10 => if r_10 = ((-2147483648 : Int32)) then some r_2 else some r_10)) else some r_2)))
set_option maxHeartbeats 4000000 in
set_option maxRecDepth 100000 in
theorem x_Heap_quoted (l : Launch) (dC : Nat → ClassId) (dI : Nat → Nat → Nat) (cI : ClassId) (adK adV adA u o g : Nat → Nat) (sz : Nat) (n : Nat) {i : Nat → Int32} {a : Nat → Nat → Int32} {v1 : Int32} {r2 : Int32} (hm : m_Heap_quoted n g i a v1 = some r2) : Met l y_Heap_quoted w_Heap_quoted ({ frames := 2, cells := 0, slots := 0, locals := 50 } : Room) (va_Pc [.ref ((u 1)), .int v1] (xEr dC dI cI adK adV adA u o g i a sz)) (va_Qi (xR r2) xT (xN sz)) 0 0 (xN sz) := by
  refine Met.ofW (cc := b_Heap_quoted) (maxL := 5) (ret := (some .int)) (by decide) rfl ?_
  intro p e s m args below meth c s₁ B hml hv
  obtain ⟨rfl, hsz, hP, hK, hE⟩ := hv
  have hx := B.exec
  have hb := B.bytes
  have hr := B.returns
  have hts := atoms_spec (ws := w_Heap_quoted) B.pre
  have htt : ∀ w ∈ tw_T, w.before _ s = true := fun w h => hts w (List.mem_cons_of_mem _ h)
  have hown : s.vm.findClass R_Heap = some m.cls := findClass_of_methodNamed B.named
  have hlocks := B.notSynchronized
  subst hsz
  generalize hAe : xN s.heap.size = A at hE ⊢
  have hA : ∀ q : Nat, s.heap.size ≤ q → A q := fun q h => by rw [← hAe]; exact Or.inr h
  have hS : va_S A s.heap s.heap [] := va_S.rf
  have hl := lv_entry ([.ref ((u 1)), .int v1]) (n := 5) (Nat.le_of_ble_eq_true rfl)
  rw [lg_entry_eq]
  generalize (lg_sl ([.ref ((u 1)), .int v1]) ++ List.replicate (5 - (lg_sl ([.ref ((u 1)), .int v1])).length) Slot.unset).toArray = ls at hl ⊢
  have hl : lv_has ls 5 [(0, .ref ((u 1))), (1, .int v1)] := hl
  rw [m_Heap_quoted] at hm
  refine lv_aload_n hx hb d_Heap_quoted_0 rfl (lv_at hl 0 rfl) ?_
  refine lv_iload_n hx hb d_Heap_quoted_1 rfl (lv_at hl 1 rfl) ?_
  obtain ⟨r_2, h_1, hm⟩ := ob0_some hm
  have hFc := x_free0 hS hA
  refine va_calli (va_runV (As := [.int v1]) (rest := []) ⟨hx, hb, hml, hown, hts⟩ (x_Heap_behind l dC dI cI adK adV adA u o g s.heap.size n h_1) (cwV 1 hts (tw_GV tw_cons cw_Heap_behind lk_Heap_132 in_Heap_behind sel_Heap_behind ini_Heap) rfl rfl rfl ⟨rfl, hd_Heap_behind⟩ ⟨Nat.le_of_ble_eq_true rfl, Nat.le_of_ble_eq_true rfl⟩) (xpVr hK hP hS hE hFc xo_1 rfl) rfl rfl hl.1 rfl (lv_room (Nat.le_of_ble_eq_true rfl)) d_Heap_quoted_2 ⟨Nat.le_of_ble_eq_true rfl, Nat.le_of_ble_eq_true rfl⟩) hS (fun q _ h => hFc q h) hFc (fun r9 u9 t9 H locs ht hvm e9 hB hz1 hk1 hS => ?_)
  have e9 : r_2 = r9 := e9
  subst e9
  replace hP := x_keep hP hk1
  clear hFc hk1 hz1 hvm hB ht
  refine lv_istore_n (lv' := [(2, .int r_2), (0, .ref ((u 1))), (1, .int v1)]) hx hb d_Heap_quoted_5 rfl hl (by decide) rfl (fun ls hl => ?_)
  refine lv_iload_n hx hb d_Heap_quoted_6 rfl (lv_at hl 0 rfl) ?_
  refine lv_ldc (v := (-2147483648)) hx hb hown (htt _ lk_Heap_71) d_Heap_quoted_7 ?_
  refine lv_icmp_ne (tgt := 15) hx hb d_Heap_quoted_9 (by decide) (fun c_3 => ?_) (fun c_3 => ?_)
  · replace hm := if_f c_3 hm
    refine lv_iload_n hx hb d_Heap_quoted_15 rfl (lv_at hl 0 rfl) ?_
    refine lv_iconst (v := 2) hx hb d_Heap_quoted_16 (by decide) ?_
    refine lv_ishr hx hb d_Heap_quoted_17 ?_
    refine lv_topi (fun x_4 ex_4 => ?_)
    replace hm := ob1_at ex_4 hm
    refine lv_istore_n (lv' := [(3, .int x_4), (2, .int r_2), (0, .ref ((u 1))), (1, .int v1)]) hx hb d_Heap_quoted_18 rfl hl (by decide) rfl (fun ls hl => ?_)
    refine lv_aload_n hx hb d_Heap_quoted_19 rfl (lv_at hl 2 rfl) ?_
    refine va_get (D := (dC, dI)) (ci := 1) (v := .ref ((o 0))) (C := R_Heap) (T := F_Heap) (N := 12) hx hb htt iw_Heap hown hK hP 1 xo_1 rfl 5 (Nat.le_of_ble_eq_true rfl) (htt _ lk_Heap_11) (fun _ h9 => h9) xg_1_5 d_Heap_quoted_20 ?_
    refine lv_iload_n hx hb d_Heap_quoted_23 rfl (lv_at hl 0 rfl) ?_
    obtain ⟨h_5, hm⟩ := ck_some hm
    refine va_iald hx hb hK hP 12 0 twA_0 rfl h_5 d_Heap_quoted_24 ?_
    refine lv_bipush (v := 57) hx hb d_Heap_quoted_25 (by decide) ?_
    refine lv_icmp_le (tgt := 32) hx hb d_Heap_quoted_27 (by decide) (fun c_6 => ?_) (fun c_6 => ?_)
    · replace hm := if_t c_6 hm
      refine lv_aload_n hx hb d_Heap_quoted_32 rfl (lv_at hl 2 rfl) ?_
      refine va_get (D := (dC, dI)) (ci := 1) (v := .ref ((o 0))) (C := R_Heap) (T := F_Heap) (N := 12) hx hb htt iw_Heap hown hK hP 1 xo_1 rfl 5 (Nat.le_of_ble_eq_true rfl) (htt _ lk_Heap_11) (fun _ h9 => h9) xg_1_5 d_Heap_quoted_33 ?_
      refine lv_iload_n hx hb d_Heap_quoted_36 rfl (lv_at hl 0 rfl) ?_
      refine lv_iload_n hx hb d_Heap_quoted_37 rfl (lv_at hl 0 rfl) ?_
      refine lv_aload_n hx hb d_Heap_quoted_38 rfl (lv_at hl 2 rfl) ?_
      refine lv_iload_n hx hb d_Heap_quoted_39 rfl (lv_at hl 1 rfl) ?_
      obtain ⟨r_8, h_7, hm⟩ := ob0_some hm
      have hFc := x_free0 hS hA
      refine va_calli (va_runV (As := [.int r_2]) (rest := [.int x_4, .int x_4, .ref ((o 0))]) ⟨hx, hb, hml, hown, hts⟩ (x_Heap_size l dC dI cI adK adV adA u o g H.size n h_7) (cwV 1 hts (tw_GV tw_cons cw_Heap_size lk_Heap_119 in_Heap_size sel_Heap_size ini_Heap) rfl rfl rfl ⟨rfl, hd_Heap_size⟩ ⟨Nat.le_of_ble_eq_true rfl, Nat.le_of_ble_eq_true rfl⟩) (xpVr hK hP hS hE hFc xo_1 rfl) rfl rfl hl.1 rfl (lv_room (Nat.le_of_ble_eq_true rfl)) d_Heap_quoted_40 ⟨Nat.le_of_ble_eq_true rfl, Nat.le_of_ble_eq_true rfl⟩) hS (fun q _ h => hFc q h) hFc (fun r9 u9 t9 H locs ht hvm e9 hB hz1 hk1 hS => ?_)
      have e9 : r_8 = r9 := e9
      subst e9
      replace hP := x_keep hP hk1
      clear hFc hk1 hz1 hvm hB ht
      refine lv_iadd hx hb d_Heap_quoted_43 ?_
      obtain ⟨r_10, h_9, hm⟩ := ob0_some hm
      have hFc := x_free0 hS hA
      refine va_calli (va_runS (As := [.ref ((o 0)), .int x_4, .int (x_4 + r_8)]) (rest := []) ⟨hx, hb, hml, hown, hts⟩ (x_Heap_numberIn_a0 l dC dI cI adK adV adA u o g H.size n h_9) (va_cwS 3 hts (tw_GS tw_cons cw_Heap_numberIn lk_Heap_136 st_Heap_numberIn ini_Heap) rfl rfl rfl hd_Heap_numberIn ⟨Nat.le_of_ble_eq_true rfl, Nat.le_of_ble_eq_true rfl⟩) (xpSr hK hP hS hE hFc) rfl rfl hl.1 rfl (lv_room (Nat.le_of_ble_eq_true rfl)) d_Heap_quoted_44 ⟨Nat.le_of_ble_eq_true rfl, Nat.le_of_ble_eq_true rfl⟩) hS (fun q _ h => hFc q h) hFc (fun r9 u9 t9 H locs ht hvm e9 hB hz1 hk1 hS => ?_)
      have e9 : r_10 = r9 := e9
      subst e9
      replace hP := x_keep hP hk1
      clear hFc hk1 hz1 hvm hB ht
      refine lv_istore (lv' := [(4, .int r_10), (3, .int x_4), (2, .int r_2), (0, .ref ((u 1))), (1, .int v1)]) hx hb d_Heap_quoted_47 hl (by decide) rfl (fun ls hl => ?_)
      refine lv_iload hx hb d_Heap_quoted_49 (lv_at hl 0 rfl) ?_
      refine lv_ldc (v := (-2147483648)) hx hb hown (htt _ lk_Heap_71) d_Heap_quoted_51 ?_
      refine lv_icmp_ne (tgt := 60) hx hb d_Heap_quoted_53 (by decide) (fun c_11 => ?_) (fun c_11 => ?_)
      · replace hm := if_f c_11 hm
        refine lv_iload hx hb d_Heap_quoted_60 (lv_at hl 0 rfl) ?_
        have e3 := re1 hm
        exact W.iret hx hb hr (fun t9 ht hW => ⟨⟨_, (), rfl, e3.symm, trivial⟩, hS.F ht⟩) hS.2.2 d_Heap_quoted_62
      · replace hm := if_t c_11 hm
        refine lv_iload_n hx hb d_Heap_quoted_56 rfl (lv_at hl 2 rfl) ?_
        refine lv_goto (tgt := 62) hx hb d_Heap_quoted_57 (by decide) ?_
        have e3 := re1 hm
        exact W.iret hx hb hr (fun t9 ht hW => ⟨⟨_, (), rfl, e3.symm, trivial⟩, hS.F ht⟩) hS.2.2 d_Heap_quoted_62
    · replace hm := if_f c_6 hm
      refine lv_iload_n hx hb d_Heap_quoted_30 rfl (lv_at hl 1 rfl) ?_
      have e3 := re1 hm
      exact W.iret hx hb hr (fun t9 ht hW => ⟨⟨_, (), rfl, e3.symm, trivial⟩, hS.F ht⟩) hS.2.2 d_Heap_quoted_31
  · replace hm := if_t c_3 hm
    refine lv_ldc (v := (-2147483645)) hx hb hown (htt _ lk_Heap_135) d_Heap_quoted_12 ?_
    have e3 := re1 hm
    exact W.iret hx hb hr (fun t9 ht hW => ⟨⟨_, (), rfl, e3.symm, trivial⟩, hS.F ht⟩) hS.2.2 d_Heap_quoted_14

def m_Names_find (n : Nat) (g : Nat → Nat) (i : Nat → Int32) (a : Nat → Nat → Int32) (v1 : Int32) : Option (Int32) := ob0 (m_Names_findLocal n g i a v1 (0 : Int32)) (fun r_2 => if r_2 < ((0 : Int32)) then ob0 (m_Names_findGlobal n g i a v1) (fun r_5 => if r_5 < ((0 : Int32)) then some ((-2147483646)) else ck r_5 64 (some (a 11 r_5.toNatClampNeg))) else ck r_2 1800 (if ((a 13 r_2.toNatClampNeg)) = ((-2147483648 : Int32)) then some ((-2147483646)) else ck r_2 1800 (some (a 13 r_2.toNatClampNeg))))
set_option maxHeartbeats 4000000 in
set_option maxRecDepth 100000 in
theorem x_Names_find (l : Launch) (dC : Nat → ClassId) (dI : Nat → Nat → Nat) (cI : ClassId) (adK adV adA u o g : Nat → Nat) (sz : Nat) (n : Nat) {i : Nat → Int32} {a : Nat → Nat → Int32} {v1 : Int32} {r2 : Int32} (hm : m_Names_find n g i a v1 = some r2) : Met l y_Names_find w_Names_find ({ frames := 2, cells := 0, slots := 0, locals := 49 } : Room) (va_Pc [.ref ((u 3)), .int v1] (xEr dC dI cI adK adV adA u o g i a sz)) (va_Qi (xR r2) xT (xN sz)) 0 0 (xN sz) := by
  refine Met.ofW (cc := b_Names_find) (maxL := 4) (ret := (some .int)) (by decide) rfl ?_
  intro p e s m args below meth c s₁ B hml hv
  obtain ⟨rfl, hsz, hP, hK, hE⟩ := hv
  have hx := B.exec
  have hb := B.bytes
  have hr := B.returns
  have hts := atoms_spec (ws := w_Names_find) B.pre
  have htt : ∀ w ∈ tw_T, w.before _ s = true := fun w h => hts w (List.mem_cons_of_mem _ h)
  have hown : s.vm.findClass R_Names = some m.cls := findClass_of_methodNamed B.named
  have hlocks := B.notSynchronized
  subst hsz
  generalize hAe : xN s.heap.size = A at hE ⊢
  have hA : ∀ q : Nat, s.heap.size ≤ q → A q := fun q h => by rw [← hAe]; exact Or.inr h
  have hS : va_S A s.heap s.heap [] := va_S.rf
  have hl := lv_entry ([.ref ((u 3)), .int v1]) (n := 4) (Nat.le_of_ble_eq_true rfl)
  rw [lg_entry_eq]
  generalize (lg_sl ([.ref ((u 3)), .int v1]) ++ List.replicate (4 - (lg_sl ([.ref ((u 3)), .int v1])).length) Slot.unset).toArray = ls at hl ⊢
  have hl : lv_has ls 4 [(0, .ref ((u 3))), (1, .int v1)] := hl
  rw [m_Names_find] at hm
  refine lv_aload_n hx hb d_Names_find_0 rfl (lv_at hl 0 rfl) ?_
  refine lv_iload_n hx hb d_Names_find_1 rfl (lv_at hl 1 rfl) ?_
  refine lv_iconst (v := 0) hx hb d_Names_find_2 (by decide) ?_
  obtain ⟨r_2, h_1, hm⟩ := ob0_some hm
  have hFc := x_free0 hS hA
  refine va_calli (va_runV (As := [.int v1, .int 0]) (rest := []) ⟨hx, hb, hml, hown, hts⟩ (x_Names_findLocal l dC dI cI adK adV adA u o g s.heap.size n h_1) (cwV 2 hts (tw_GV tw_cons cw_Names_findLocal lk_Names_44 in_Names_findLocal sel_Names_findLocal ini_Names) rfl rfl rfl ⟨rfl, hd_Names_findLocal⟩ ⟨Nat.le_of_ble_eq_true rfl, Nat.le_of_ble_eq_true rfl⟩) (xpVr hK hP hS hE hFc xo_3 rfl) rfl rfl hl.1 rfl (lv_room (Nat.le_of_ble_eq_true rfl)) d_Names_find_3 ⟨Nat.le_of_ble_eq_true rfl, Nat.le_of_ble_eq_true rfl⟩) hS (fun q _ h => hFc q h) hFc (fun r9 u9 t9 H locs ht hvm e9 hB hz1 hk1 hS => ?_)
  have e9 : r_2 = r9 := e9
  subst e9
  replace hP := x_keep hP hk1
  clear hFc hk1 hz1 hvm hB ht
  refine lv_istore_n (lv' := [(2, .int r_2), (0, .ref ((u 3))), (1, .int v1)]) hx hb d_Names_find_6 rfl hl (by decide) rfl (fun ls hl => ?_)
  refine lv_iload_n hx hb d_Names_find_7 rfl (lv_at hl 0 rfl) ?_
  refine lv_if_lt (tgt := 34) hx hb d_Names_find_8 (by decide) (fun c_3 => ?_) (fun c_3 => ?_)
  · replace hm := if_t c_3 hm
    refine lv_aload_n hx hb d_Names_find_34 rfl (lv_at hl 1 rfl) ?_
    refine lv_iload_n hx hb d_Names_find_35 rfl (lv_at hl 2 rfl) ?_
    obtain ⟨r_5, h_4, hm⟩ := ob0_some hm
    have hFc := x_free0 hS hA
    refine va_calli (va_runV (As := [.int v1]) (rest := []) ⟨hx, hb, hml, hown, hts⟩ (x_Names_findGlobal l dC dI cI adK adV adA u o g H.size n h_4) (cwV 1 hts (tw_GV tw_cons cw_Names_findGlobal lk_Names_50 in_Names_findGlobal sel_Names_findGlobal ini_Names) rfl rfl rfl ⟨rfl, hd_Names_findGlobal⟩ ⟨Nat.le_of_ble_eq_true rfl, Nat.le_of_ble_eq_true rfl⟩) (xpVr hK hP hS hE hFc xo_3 rfl) rfl rfl hl.1 rfl (lv_room (Nat.le_of_ble_eq_true rfl)) d_Names_find_36 ⟨Nat.le_of_ble_eq_true rfl, Nat.le_of_ble_eq_true rfl⟩) hS (fun q _ h => hFc q h) hFc (fun r9 u9 t9 H locs ht hvm e9 hB hz1 hk1 hS => ?_)
    have e9 : r_5 = r9 := e9
    subst e9
    replace hP := x_keep hP hk1
    clear hFc hk1 hz1 hvm hB ht
    refine lv_istore_n (lv' := [(3, .int r_5), (2, .int r_2), (0, .ref ((u 3))), (1, .int v1)]) hx hb d_Names_find_39 rfl hl (by decide) rfl (fun ls hl => ?_)
    refine lv_iload_n hx hb d_Names_find_40 rfl (lv_at hl 0 rfl) ?_
    refine lv_if_lt (tgt := 53) hx hb d_Names_find_41 (by decide) (fun c_6 => ?_) (fun c_6 => ?_)
    · replace hm := if_t c_6 hm
      refine lv_ldc (v := (-2147483646)) hx hb hown (htt _ lk_Names_49) d_Names_find_53 ?_
      have e3 := re1 hm
      exact W.iret hx hb hr (fun t9 ht hW => ⟨⟨_, (), rfl, e3.symm, trivial⟩, hS.F ht⟩) hS.2.2 d_Names_find_55
    · replace hm := if_f c_6 hm
      refine lv_aload_n hx hb d_Names_find_44 rfl (lv_at hl 2 rfl) ?_
      refine va_get (D := (dC, dI)) (ci := 3) (v := .ref ((u 21))) (C := R_Names) (T := F_Names) (N := 9) hx hb htt iw_Names hown hK hP 3 xo_3 rfl 2 (Nat.le_of_ble_eq_true rfl) (htt _ lk_Names_15) (fun _ h9 => h9) xg_3_2 d_Names_find_45 ?_
      refine lv_iload_n hx hb d_Names_find_48 rfl (lv_at hl 0 rfl) ?_
      obtain ⟨h_7, hm⟩ := ck_some hm
      refine va_iald hx hb hK hP 23 0 twA_11 rfl h_7 d_Names_find_49 ?_
      refine lv_goto (tgt := 55) hx hb d_Names_find_50 (by decide) ?_
      have e3 := re1 hm
      exact W.iret hx hb hr (fun t9 ht hW => ⟨⟨_, (), rfl, e3.symm, trivial⟩, hS.F ht⟩) hS.2.2 d_Names_find_55
  · replace hm := if_f c_3 hm
    refine lv_aload_n hx hb d_Names_find_11 rfl (lv_at hl 1 rfl) ?_
    refine va_get (D := (dC, dI)) (ci := 3) (v := .ref ((u 23))) (C := R_Names) (T := F_Names) (N := 9) hx hb htt iw_Names hown hK hP 3 xo_3 rfl 5 (Nat.le_of_ble_eq_true rfl) (htt _ lk_Names_21) (fun _ h9 => h9) xg_3_5 d_Names_find_12 ?_
    refine lv_iload_n hx hb d_Names_find_15 rfl (lv_at hl 0 rfl) ?_
    obtain ⟨h_8, hm⟩ := ck_some hm
    refine va_iald hx hb hK hP 25 0 twA_13 rfl h_8 d_Names_find_16 ?_
    refine lv_ldc (v := (-2147483648)) hx hb hown (htt _ lk_Names_48) d_Names_find_17 ?_
    refine lv_icmp_ne (tgt := 27) hx hb d_Names_find_19 (by decide) (fun c_9 => ?_) (fun c_9 => ?_)
    · replace hm := if_f c_9 hm
      refine lv_aload_n hx hb d_Names_find_27 rfl (lv_at hl 1 rfl) ?_
      refine va_get (D := (dC, dI)) (ci := 3) (v := .ref ((u 23))) (C := R_Names) (T := F_Names) (N := 9) hx hb htt iw_Names hown hK hP 3 xo_3 rfl 5 (Nat.le_of_ble_eq_true rfl) (htt _ lk_Names_21) (fun _ h9 => h9) xg_3_5 d_Names_find_28 ?_
      refine lv_iload_n hx hb d_Names_find_31 rfl (lv_at hl 0 rfl) ?_
      obtain ⟨h_10, hm⟩ := ck_some hm
      refine va_iald hx hb hK hP 25 0 twA_13 rfl h_10 d_Names_find_32 ?_
      have e3 := re1 hm
      exact W.iret hx hb hr (fun t9 ht hW => ⟨⟨_, (), rfl, e3.symm, trivial⟩, hS.F ht⟩) hS.2.2 d_Names_find_33
    · replace hm := if_t c_9 hm
      refine lv_ldc (v := (-2147483646)) hx hb hown (htt _ lk_Names_49) d_Names_find_22 ?_
      refine lv_goto (tgt := 33) hx hb d_Names_find_24 (by decide) ?_
      have e3 := re1 hm
      exact W.iret hx hb hr (fun t9 ht hW => ⟨⟨_, (), rfl, e3.symm, trivial⟩, hS.F ht⟩) hS.2.2 d_Names_find_33

def m_Machine_meetProcedure (n : Nat) (g : Nat → Nat) (i : Nat → Int32) (a : Nat → Nat → Int32) (v1 : Int32) : Option ((Nat → Int32) × (Nat → Nat → Int32) × Int32) := ob0 (m_Procedures_find n g i a v1) (fun r_2 => if ((0 : Int32)) ≤ r_2 then ck r_2 40 (ob1 (a 16 r_2.toNatClampNeg : Int32) (fun x_5 => ck r_2 40 (ob0 (m_Heap_count n g i a x_5) (fun r_8 => ob (m_Waiting_meetCall n g i a r_2 x_5 (a 17 r_2.toNatClampNeg) r_8) (fun i_10 a_11 r_12 => ob (m_Waiting_settleLast n g i_10 a_11) (fun i_14 a_15 r_16 => some (i_14, a_15, r_16))))))) else some (i, a, (-2147483647)))
set_option maxHeartbeats 4000000 in
set_option maxRecDepth 100000 in
theorem x_Machine_meetProcedure (l : Launch) (dC : Nat → ClassId) (dI : Nat → Nat → Nat) (cI : ClassId) (adK adV adA u o g : Nat → Nat) (sz : Nat) (n : Nat) {i : Nat → Int32} {a : Nat → Nat → Int32} {v1 : Int32} {i2 : Nat → Int32} {a2 : Nat → Nat → Int32} {r2 : Int32} (hm : m_Machine_meetProcedure n g i a v1 = some (i2, a2, r2)) : Met l y_Machine_meetProcedure w_Machine_meetProcedure ({ frames := 2, cells := 0, slots := 0, locals := 48 } : Room) (va_Pc [.ref ((u 11)), .int v1] (xE dC dI cI adK adV adA u o g i a sz)) (va_Qi (xR r2) (xB dC dI cI u o g i2 a2 (va_A (TW cI u o i a g) sz)) (va_A (TW cI u o i a g) sz)) 0 0 ((va_A (TW cI u o i a g) sz)) := by
  refine Met.ofW (cc := b_Machine_meetProcedure) (maxL := 4) (ret := (some .int)) (by decide) rfl ?_
  intro p e s m args below meth c s₁ B hml hv
  obtain ⟨rfl, hsz, hP, hK, hE, hD0⟩ := hv
  have hx := B.exec
  have hb := B.bytes
  have hr := B.returns
  have hts := atoms_spec (ws := w_Machine_meetProcedure) B.pre
  have htt : ∀ w ∈ tw_T, w.before _ s = true := fun w h => hts w (List.mem_cons_of_mem _ h)
  have hown : s.vm.findClass R_Machine = some m.cls := findClass_of_methodNamed B.named
  have hlocks := B.notSynchronized
  subst hsz
  have hD := hD0.self (sz := s.heap.size)
  generalize hAe : (va_A (TW cI u o i a g) s.heap.size) = A at hD hE ⊢
  have hA : ∀ q : Nat, s.heap.size ≤ q → A q := fun q h => by rw [← hAe]; exact Or.inr h
  have hS : va_S A s.heap s.heap [] := va_S.rf
  have hl := lv_entry ([.ref ((u 11)), .int v1]) (n := 4) (Nat.le_of_ble_eq_true rfl)
  rw [lg_entry_eq]
  generalize (lg_sl ([.ref ((u 11)), .int v1]) ++ List.replicate (4 - (lg_sl ([.ref ((u 11)), .int v1])).length) Slot.unset).toArray = ls at hl ⊢
  have hl : lv_has ls 4 [(0, .ref ((u 11))), (1, .int v1)] := hl
  rw [m_Machine_meetProcedure] at hm
  refine lv_aload_n hx hb d_Machine_meetProcedure_0 rfl (lv_at hl 0 rfl) ?_
  refine va_get (D := (dC, dI)) (ci := 11) (v := .ref ((u 4))) (C := R_Machine) (T := F_Machine) (N := 9) hx hb htt iw_Machine hown hK hP 11 xo_11 rfl 4 (Nat.le_of_ble_eq_true rfl) (htt _ lk_Machine_30) (fun _ h9 => h9) xg_11_4 d_Machine_meetProcedure_1 ?_
  refine lv_iload_n hx hb d_Machine_meetProcedure_4 rfl (lv_at hl 1 rfl) ?_
  obtain ⟨r_2, h_1, hm⟩ := ob0_some hm
  have hFc := x_free0 hS hA
  refine va_calli (va_runV (As := [.int v1]) (rest := []) ⟨hx, hb, hml, hown, hts⟩ (x_Procedures_find l dC dI cI adK adV adA u o g s.heap.size n h_1) (cwV 1 hts (tw_GV tw_cons cw_Procedures_find lk_Machine_212 in_Procedures_find sel_Procedures_find ini_Procedures) rfl rfl rfl ⟨rfl, hd_Procedures_find⟩ ⟨Nat.le_of_ble_eq_true rfl, Nat.le_of_ble_eq_true rfl⟩) (xpVr hK hP hS hE hFc xo_4 rfl) rfl rfl hl.1 rfl (lv_room (Nat.le_of_ble_eq_true rfl)) d_Machine_meetProcedure_5 ⟨Nat.le_of_ble_eq_true rfl, Nat.le_of_ble_eq_true rfl⟩) hS (fun q _ h => hFc q h) hFc (fun r9 u9 t9 H locs ht hvm e9 hB hz1 hk1 hS => ?_)
  have e9 : r_2 = r9 := e9
  subst e9
  replace hP := x_keep hP hk1
  clear hFc hk1 hz1 hvm hB ht
  refine lv_istore_n (lv' := [(2, .int r_2), (0, .ref ((u 11))), (1, .int v1)]) hx hb d_Machine_meetProcedure_8 rfl hl (by decide) rfl (fun ls hl => ?_)
  refine lv_iload_n hx hb d_Machine_meetProcedure_9 rfl (lv_at hl 0 rfl) ?_
  refine lv_if_ge (tgt := 16) hx hb d_Machine_meetProcedure_10 (by decide) (fun c_3 => ?_) (fun c_3 => ?_)
  · replace hm := if_t c_3 hm
    refine lv_aload_n hx hb d_Machine_meetProcedure_16 rfl (lv_at hl 1 rfl) ?_
    refine va_get (D := (dC, dI)) (ci := 11) (v := .ref ((u 4))) (C := R_Machine) (T := F_Machine) (N := 9) hx hb htt iw_Machine hown hK hP 11 xo_11 rfl 4 (Nat.le_of_ble_eq_true rfl) (htt _ lk_Machine_30) (fun _ h9 => h9) xg_11_4 d_Machine_meetProcedure_17 ?_
    refine va_get (D := (dC, dI)) (ci := 4) (v := .ref ((u 26))) (C := R_Procedures) (T := F_Procedures) (N := 8) hx hb htt iw_Procedures hown hK hP 4 xo_4 rfl 2 (Nat.le_of_ble_eq_true rfl) (htt _ lk_Machine_215) (fun _ h9 => h9) xg_4_2 d_Machine_meetProcedure_20 ?_
    refine lv_iload_n hx hb d_Machine_meetProcedure_23 rfl (lv_at hl 0 rfl) ?_
    obtain ⟨h_4, hm⟩ := ck_some hm
    refine va_iald hx hb hK hP 28 0 twA_16 rfl h_4 d_Machine_meetProcedure_24 ?_
    refine lv_topi (fun x_5 ex_5 => ?_)
    replace hm := ob1_at ex_5 hm
    refine lv_istore_n (lv' := [(3, .int x_5), (2, .int r_2), (0, .ref ((u 11))), (1, .int v1)]) hx hb d_Machine_meetProcedure_25 rfl hl (by decide) rfl (fun ls hl => ?_)
    refine lv_aload_n hx hb d_Machine_meetProcedure_26 rfl (lv_at hl 2 rfl) ?_
    refine va_get (D := (dC, dI)) (ci := 11) (v := .ref ((u 9))) (C := R_Machine) (T := F_Machine) (N := 9) hx hb htt iw_Machine hown hK hP 11 xo_11 rfl 2 (Nat.le_of_ble_eq_true rfl) (htt _ lk_Machine_22) (fun _ h9 => h9) xg_11_2 d_Machine_meetProcedure_27 ?_
    refine lv_iload_n hx hb d_Machine_meetProcedure_30 rfl (lv_at hl 1 rfl) ?_
    refine lv_iload_n hx hb d_Machine_meetProcedure_31 rfl (lv_at hl 0 rfl) ?_
    refine lv_aload_n hx hb d_Machine_meetProcedure_32 rfl (lv_at hl 2 rfl) ?_
    refine va_get (D := (dC, dI)) (ci := 11) (v := .ref ((u 4))) (C := R_Machine) (T := F_Machine) (N := 9) hx hb htt iw_Machine hown hK hP 11 xo_11 rfl 4 (Nat.le_of_ble_eq_true rfl) (htt _ lk_Machine_30) (fun _ h9 => h9) xg_11_4 d_Machine_meetProcedure_33 ?_
    refine va_get (D := (dC, dI)) (ci := 4) (v := .ref ((u 27))) (C := R_Procedures) (T := F_Procedures) (N := 8) hx hb htt iw_Procedures hown hK hP 4 xo_4 rfl 3 (Nat.le_of_ble_eq_true rfl) (htt _ lk_Machine_218) (fun _ h9 => h9) xg_4_3 d_Machine_meetProcedure_36 ?_
    refine lv_iload_n hx hb d_Machine_meetProcedure_39 rfl (lv_at hl 1 rfl) ?_
    obtain ⟨h_6, hm⟩ := ck_some hm
    refine va_iald hx hb hK hP 29 0 twA_17 rfl h_6 d_Machine_meetProcedure_40 ?_
    refine lv_aload_n hx hb d_Machine_meetProcedure_41 rfl (lv_at hl 2 rfl) ?_
    refine va_get (D := (dC, dI)) (ci := 11) (v := .ref ((u 1))) (C := R_Machine) (T := F_Machine) (N := 9) hx hb htt iw_Machine hown hK hP 11 xo_11 rfl 0 (Nat.le_of_ble_eq_true rfl) (htt _ lk_Machine_15) (fun _ h9 => h9) xg_11_0 d_Machine_meetProcedure_42 ?_
    refine lv_iload_n hx hb d_Machine_meetProcedure_45 rfl (lv_at hl 0 rfl) ?_
    obtain ⟨r_8, h_7, hm⟩ := ob0_some hm
    have hFc := x_free0 hS hA
    refine va_calli (va_runV (As := [.int x_5]) (rest := [.int (a 17 r_2.toNatClampNeg), .int x_5, .int r_2, .ref ((u 9))]) ⟨hx, hb, hml, hown, hts⟩ (x_Heap_count l dC dI cI adK adV adA u o g H.size n h_7) (cwV 1 hts (tw_GV tw_cons cw_Heap_count lk_Machine_221 in_Heap_count sel_Heap_count ini_Heap) rfl rfl rfl ⟨rfl, hd_Heap_count⟩ ⟨Nat.le_of_ble_eq_true rfl, Nat.le_of_ble_eq_true rfl⟩) (xpVr hK hP hS hE hFc xo_1 rfl) rfl rfl hl.1 rfl (lv_room (Nat.le_of_ble_eq_true rfl)) d_Machine_meetProcedure_46 ⟨Nat.le_of_ble_eq_true rfl, Nat.le_of_ble_eq_true rfl⟩) hS (fun q _ h => hFc q h) hFc (fun r9 u9 t9 H locs ht hvm e9 hB hz1 hk1 hS => ?_)
    have e9 : r_8 = r9 := e9
    subst e9
    replace hP := x_keep hP hk1
    clear hFc hk1 hz1 hvm hB ht
    obtain ⟨i_10, a_11, r_12, h_9, hm⟩ := ob_some hm
    have hFc := x_free hD hS hA
    refine va_callv (va_runV (As := [.int r_2, .int x_5, .int (a 17 r_2.toNatClampNeg), .int r_8]) (rest := []) ⟨hx, hb, hml, hown, hts⟩ (x_Waiting_meetCall l dC dI cI adK adV adA u o g H.size n h_9) (cwV 4 hts (tw_GV tw_cons cw_Waiting_meetCall lk_Machine_223 in_Waiting_meetCall sel_Waiting_meetCall ini_Waiting) rfl rfl rfl ⟨rfl, hd_Waiting_meetCall⟩ ⟨Nat.le_of_ble_eq_true rfl, Nat.le_of_ble_eq_true rfl⟩) (xpV hK hP hD hS hE hFc xo_9 rfl) rfl rfl hl.1 rfl (lv_room (Nat.le_of_ble_eq_true rfl)) d_Machine_meetProcedure_49 ⟨Nat.le_of_ble_eq_true rfl, Nat.le_of_ble_eq_true rfl⟩) hS (fun q _ h => hFc q h) hFc (fun u9 t9 H locs ht hvm e9 hB hz1 hk1 hS => ?_)
    obtain ⟨hP, hD⟩ := x_aft hB ht hFc
    clear hFc hk1 hz1 hvm hB ht
    refine lv_aload_n hx hb d_Machine_meetProcedure_52 rfl (lv_at hl 2 rfl) ?_
    refine va_get (D := (dC, dI)) (ci := 11) (v := .ref ((u 9))) (C := R_Machine) (T := F_Machine) (N := 9) hx hb htt iw_Machine hown hK hP 11 xo_11 rfl 2 (Nat.le_of_ble_eq_true rfl) (htt _ lk_Machine_22) (fun _ h9 => h9) xg_11_2 d_Machine_meetProcedure_53 ?_
    obtain ⟨i_14, a_15, r_16, h_13, hm⟩ := ob_some hm
    have hFc := x_free hD hS hA
    refine va_calli (va_runV (As := []) (rest := []) ⟨hx, hb, hml, hown, hts⟩ (x_Waiting_settleLast l dC dI cI adK adV adA u o g H.size n h_13) (cwV 0 hts (tw_GV tw_cons cw_Waiting_settleLast lk_Machine_209 in_Waiting_settleLast sel_Waiting_settleLast ini_Waiting) rfl rfl rfl ⟨rfl, hd_Waiting_settleLast⟩ ⟨Nat.le_of_ble_eq_true rfl, Nat.le_of_ble_eq_true rfl⟩) (xpV hK hP hD hS hE hFc xo_9 rfl) rfl rfl hl.1 rfl (lv_room (Nat.le_of_ble_eq_true rfl)) d_Machine_meetProcedure_56 ⟨Nat.le_of_ble_eq_true rfl, Nat.le_of_ble_eq_true rfl⟩) hS (fun q _ h => hFc q h) hFc (fun r9 u9 t9 H locs ht hvm e9 hB hz1 hk1 hS => ?_)
    have e9 : r_16 = r9 := e9
    subst e9
    obtain ⟨hP, hD⟩ := x_aft hB ht hFc
    clear hFc hk1 hz1 hvm hB ht
    obtain ⟨e1i, e1a, e3⟩ := re3 hm
    obtain ⟨hP, hD⟩ := x_eq e1i e1a hP hD
    exact W.iret hx hb hr (fun t9 ht hW => ⟨⟨_, (), rfl, e3.symm, by rw [ht]; exact hP, hD⟩, hS.F ht⟩) hS.2.2 d_Machine_meetProcedure_59
  · replace hm := if_f c_3 hm
    refine lv_ldc (v := (-2147483647)) hx hb hown (htt _ lk_Machine_208) d_Machine_meetProcedure_13 ?_
    obtain ⟨e1i, e1a, e3⟩ := re3 hm
    obtain ⟨hP, hD⟩ := x_eq e1i e1a hP hD
    exact W.iret hx hb hr (fun t9 ht hW => ⟨⟨_, (), rfl, e3.symm, by rw [ht]; exact hP, hD⟩, hS.F ht⟩) hS.2.2 d_Machine_meetProcedure_15

def m_Machine_finishLine (n : Nat) (g : Nat → Nat) (i : Nat → Int32) (a : Nat → Nat → Int32) (v1 : Int32) (v2 : Int32) : Option ((Nat → Int32) × (Nat → Nat → Int32) × Int32) := ob (m_Machine_leave n g i a (0 : Int32)) (fun i_2 a_3 r_4 => ob (m_Waiting_begin n g i_2 a_3) (fun i_6 a_7 r_8 => ob1 (upd i_6 35 v1 : Nat → Int32) (fun i_9 => ob1 (upd i_9 36 v2 : Nat → Int32) (fun i_10 => some (i_10, a_7, (0 : Int32))))))
set_option maxHeartbeats 4000000 in
set_option maxRecDepth 100000 in
theorem x_Machine_finishLine (l : Launch) (dC : Nat → ClassId) (dI : Nat → Nat → Nat) (cI : ClassId) (adK adV adA u o g : Nat → Nat) (sz : Nat) (n : Nat) {i : Nat → Int32} {a : Nat → Nat → Int32} {v1 : Int32} {v2 : Int32} {i2 : Nat → Int32} {a2 : Nat → Nat → Int32} {r2 : Int32} (hm : m_Machine_finishLine n g i a v1 v2 = some (i2, a2, r2)) : Met l y_Machine_finishLine w_Machine_finishLine ({ frames := 2, cells := 0, slots := 0, locals := 43 } : Room) (va_Pc [.ref ((u 11)), .int v1, .int v2] (xE dC dI cI adK adV adA u o g i a sz)) (va_Qv xV (xB dC dI cI u o g i2 a2 (va_A (TW cI u o i a g) sz)) (va_A (TW cI u o i a g) sz)) 0 0 ((va_A (TW cI u o i a g) sz)) := by
  refine Met.ofW (cc := b_Machine_finishLine) (maxL := 3) (ret := none) (by decide) rfl ?_
  intro p e s m args below meth c s₁ B hml hv
  obtain ⟨rfl, hsz, hP, hK, hE, hD0⟩ := hv
  have hx := B.exec
  have hb := B.bytes
  have hr := B.returns
  have hts := atoms_spec (ws := w_Machine_finishLine) B.pre
  have htt : ∀ w ∈ tw_T, w.before _ s = true := fun w h => hts w (List.mem_cons_of_mem _ h)
  have hown : s.vm.findClass R_Machine = some m.cls := findClass_of_methodNamed B.named
  have hlocks := B.notSynchronized
  subst hsz
  have hD := hD0.self (sz := s.heap.size)
  generalize hAe : (va_A (TW cI u o i a g) s.heap.size) = A at hD hE ⊢
  have hA : ∀ q : Nat, s.heap.size ≤ q → A q := fun q h => by rw [← hAe]; exact Or.inr h
  have hS : va_S A s.heap s.heap [] := va_S.rf
  have hl := lv_entry ([.ref ((u 11)), .int v1, .int v2]) (n := 3) (Nat.le_of_ble_eq_true rfl)
  rw [lg_entry_eq]
  generalize (lg_sl ([.ref ((u 11)), .int v1, .int v2]) ++ List.replicate (3 - (lg_sl ([.ref ((u 11)), .int v1, .int v2])).length) Slot.unset).toArray = ls at hl ⊢
  have hl : lv_has ls 3 [(0, .ref ((u 11))), (1, .int v1), (2, .int v2)] := hl
  rw [m_Machine_finishLine] at hm
  refine lv_aload_n hx hb d_Machine_finishLine_0 rfl (lv_at hl 0 rfl) ?_
  refine lv_iconst (v := 0) hx hb d_Machine_finishLine_1 (by decide) ?_
  obtain ⟨i_2, a_3, r_4, h_1, hm⟩ := ob_some hm
  have hFc := x_free hD hS hA
  refine va_callv (va_runV (As := [.int 0]) (rest := []) ⟨hx, hb, hml, hown, hts⟩ (x_Machine_leave l dC dI cI adK adV adA u o g s.heap.size n h_1) (cwV 1 hts (tw_GV tw_cons cw_Machine_leave lk_Machine_87 in_Machine_leave sel_Machine_leave ini_Machine) rfl rfl rfl ⟨rfl, hd_Machine_leave⟩ ⟨Nat.le_of_ble_eq_true rfl, Nat.le_of_ble_eq_true rfl⟩) (xpV hK hP hD hS hE hFc xo_11 rfl) rfl rfl hl.1 rfl (lv_room (Nat.le_of_ble_eq_true rfl)) d_Machine_finishLine_2 ⟨Nat.le_of_ble_eq_true rfl, Nat.le_of_ble_eq_true rfl⟩) hS (fun q _ h => hFc q h) hFc (fun u9 t9 H locs ht hvm e9 hB hz1 hk1 hS => ?_)
  obtain ⟨hP, hD⟩ := x_aft hB ht hFc
  clear hFc hk1 hz1 hvm hB ht
  refine lv_aload_n hx hb d_Machine_finishLine_5 rfl (lv_at hl 0 rfl) ?_
  refine va_get (D := (dC, dI)) (ci := 11) (v := .ref ((u 9))) (C := R_Machine) (T := F_Machine) (N := 9) hx hb htt iw_Machine hown hK hP 11 xo_11 rfl 2 (Nat.le_of_ble_eq_true rfl) (htt _ lk_Machine_22) (fun _ h9 => h9) xg_11_2 d_Machine_finishLine_6 ?_
  obtain ⟨i_6, a_7, r_8, h_5, hm⟩ := ob_some hm
  have hFc := x_free hD hS hA
  refine va_callv (va_runV (As := []) (rest := []) ⟨hx, hb, hml, hown, hts⟩ (x_Waiting_begin l dC dI cI adK adV adA u o g H.size n h_5) (cwV 0 hts (tw_GV tw_cons cw_Waiting_begin lk_Machine_51 in_Waiting_begin sel_Waiting_begin ini_Waiting) rfl rfl rfl ⟨rfl, hd_Waiting_begin⟩ ⟨Nat.le_of_ble_eq_true rfl, Nat.le_of_ble_eq_true rfl⟩) (xpV hK hP hD hS hE hFc xo_9 rfl) rfl rfl hl.1 rfl (lv_room (Nat.le_of_ble_eq_true rfl)) d_Machine_finishLine_9 ⟨Nat.le_of_ble_eq_true rfl, Nat.le_of_ble_eq_true rfl⟩) hS (fun q _ h => hFc q h) hFc (fun u9 t9 H locs ht hvm e9 hB hz1 hk1 hS => ?_)
  obtain ⟨hP, hD⟩ := x_aft hB ht hFc
  clear hFc hk1 hz1 hvm hB ht
  refine lv_aload_n hx hb d_Machine_finishLine_12 rfl (lv_at hl 0 rfl) ?_
  refine va_get (D := (dC, dI)) (ci := 11) (v := .ref ((u 8))) (C := R_Machine) (T := F_Machine) (N := 9) hx hb htt iw_Machine hown hK hP 11 xo_11 rfl 1 (Nat.le_of_ble_eq_true rfl) (htt _ lk_Machine_18) (fun _ h9 => h9) xg_11_1 d_Machine_finishLine_13 ?_
  refine lv_iload_n hx hb d_Machine_finishLine_16 rfl (lv_at hl 1 rfl) ?_
  refine va_put (D := (dC, dI)) (ci := 8) (v := .int v1) (ty := .int) (C := R_Line) (T := F_Line) (N := 18) hx hb htt iw_Line t_Line t_Line_ok n_Line hown hK hP hD hS 8 xo_8 rfl 1 (Nat.le_of_ble_eq_true rfl) (htt _ lk_Machine_74) (fun _ h9 => h9) rfl (by decide +kernel) rfl rfl xl_8_1 d_Machine_finishLine_17 (fun H locs hP hD hS => ?_)
  obtain ⟨i_9, ei_9⟩ : ∃ y9 : Nat → Int32, y9 = upd i_6 35 v1 := ⟨_, rfl⟩
  replace hm := ob1_at ei_9 hm
  obtain ⟨hP, hD⟩ := xw_35 ei_9 hP hD
  refine lv_aload_n hx hb d_Machine_finishLine_20 rfl (lv_at hl 0 rfl) ?_
  refine va_get (D := (dC, dI)) (ci := 11) (v := .ref ((u 8))) (C := R_Machine) (T := F_Machine) (N := 9) hx hb htt iw_Machine hown hK hP 11 xo_11 rfl 1 (Nat.le_of_ble_eq_true rfl) (htt _ lk_Machine_18) (fun _ h9 => h9) xg_11_1 d_Machine_finishLine_21 ?_
  refine lv_iload_n hx hb d_Machine_finishLine_24 rfl (lv_at hl 2 rfl) ?_
  refine va_put (D := (dC, dI)) (ci := 8) (v := .int v2) (ty := .int) (C := R_Line) (T := F_Line) (N := 18) hx hb htt iw_Line t_Line t_Line_ok n_Line hown hK hP hD hS 8 xo_8 rfl 2 (Nat.le_of_ble_eq_true rfl) (htt _ lk_Machine_90) (fun _ h9 => h9) rfl (by decide +kernel) rfl rfl xl_8_2 d_Machine_finishLine_25 (fun H locs hP hD hS => ?_)
  obtain ⟨i_10, ei_10⟩ : ∃ y9 : Nat → Int32, y9 = upd i_9 36 v2 := ⟨_, rfl⟩
  replace hm := ob1_at ei_10 hm
  obtain ⟨hP, hD⟩ := xw_36 ei_10 hP hD
  obtain ⟨e1i, e1a, e3⟩ := re3 hm
  obtain ⟨hP, hD⟩ := x_eq e1i e1a hP hD
  exact W.vret hx hb hr (fun t9 ht hW => ⟨⟨(), rfl, trivial, by rw [ht]; exact hP, hD⟩, hS.F ht⟩) hS.2.2 d_Machine_finishLine_28

def m_Machine_leaveGiving (n : Nat) (g : Nat → Nat) (i : Nat → Int32) (a : Nat → Nat → Int32) (v1 : Int32) (v2 : Int32) : Option ((Nat → Int32) × (Nat → Nat → Int32) × Int32) := ob (m_Machine_leave n g i a v1) (fun i_2 a_3 r_4 => some (i_2, a_3, v2))
set_option maxHeartbeats 4000000 in
set_option maxRecDepth 100000 in
theorem x_Machine_leaveGiving (l : Launch) (dC : Nat → ClassId) (dI : Nat → Nat → Nat) (cI : ClassId) (adK adV adA u o g : Nat → Nat) (sz : Nat) (n : Nat) {i : Nat → Int32} {a : Nat → Nat → Int32} {v1 : Int32} {v2 : Int32} {i2 : Nat → Int32} {a2 : Nat → Nat → Int32} {r2 : Int32} (hm : m_Machine_leaveGiving n g i a v1 v2 = some (i2, a2, r2)) : Met l y_Machine_leaveGiving w_Machine_leaveGiving ({ frames := 2, cells := 0, slots := 0, locals := 43 } : Room) (va_Pc [.ref ((u 11)), .int v1, .int v2] (xE dC dI cI adK adV adA u o g i a sz)) (va_Qi (xR r2) (xB dC dI cI u o g i2 a2 (va_A (TW cI u o i a g) sz)) (va_A (TW cI u o i a g) sz)) 0 0 ((va_A (TW cI u o i a g) sz)) := by
  refine Met.ofW (cc := b_Machine_leaveGiving) (maxL := 3) (ret := (some .int)) (by decide) rfl ?_
  intro p e s m args below meth c s₁ B hml hv
  obtain ⟨rfl, hsz, hP, hK, hE, hD0⟩ := hv
  have hx := B.exec
  have hb := B.bytes
  have hr := B.returns
  have hts := atoms_spec (ws := w_Machine_leaveGiving) B.pre
  have htt : ∀ w ∈ tw_T, w.before _ s = true := fun w h => hts w (List.mem_cons_of_mem _ h)
  have hown : s.vm.findClass R_Machine = some m.cls := findClass_of_methodNamed B.named
  have hlocks := B.notSynchronized
  subst hsz
  have hD := hD0.self (sz := s.heap.size)
  generalize hAe : (va_A (TW cI u o i a g) s.heap.size) = A at hD hE ⊢
  have hA : ∀ q : Nat, s.heap.size ≤ q → A q := fun q h => by rw [← hAe]; exact Or.inr h
  have hS : va_S A s.heap s.heap [] := va_S.rf
  have hl := lv_entry ([.ref ((u 11)), .int v1, .int v2]) (n := 3) (Nat.le_of_ble_eq_true rfl)
  rw [lg_entry_eq]
  generalize (lg_sl ([.ref ((u 11)), .int v1, .int v2]) ++ List.replicate (3 - (lg_sl ([.ref ((u 11)), .int v1, .int v2])).length) Slot.unset).toArray = ls at hl ⊢
  have hl : lv_has ls 3 [(0, .ref ((u 11))), (1, .int v1), (2, .int v2)] := hl
  rw [m_Machine_leaveGiving] at hm
  refine lv_aload_n hx hb d_Machine_leaveGiving_0 rfl (lv_at hl 0 rfl) ?_
  refine lv_iload_n hx hb d_Machine_leaveGiving_1 rfl (lv_at hl 1 rfl) ?_
  obtain ⟨i_2, a_3, r_4, h_1, hm⟩ := ob_some hm
  have hFc := x_free hD hS hA
  refine va_callv (va_runV (As := [.int v1]) (rest := []) ⟨hx, hb, hml, hown, hts⟩ (x_Machine_leave l dC dI cI adK adV adA u o g s.heap.size n h_1) (cwV 1 hts (tw_GV tw_cons cw_Machine_leave lk_Machine_87 in_Machine_leave sel_Machine_leave ini_Machine) rfl rfl rfl ⟨rfl, hd_Machine_leave⟩ ⟨Nat.le_of_ble_eq_true rfl, Nat.le_of_ble_eq_true rfl⟩) (xpV hK hP hD hS hE hFc xo_11 rfl) rfl rfl hl.1 rfl (lv_room (Nat.le_of_ble_eq_true rfl)) d_Machine_leaveGiving_2 ⟨Nat.le_of_ble_eq_true rfl, Nat.le_of_ble_eq_true rfl⟩) hS (fun q _ h => hFc q h) hFc (fun u9 t9 H locs ht hvm e9 hB hz1 hk1 hS => ?_)
  obtain ⟨hP, hD⟩ := x_aft hB ht hFc
  clear hFc hk1 hz1 hvm hB ht
  refine lv_iload_n hx hb d_Machine_leaveGiving_5 rfl (lv_at hl 2 rfl) ?_
  obtain ⟨e1i, e1a, e3⟩ := re3 hm
  obtain ⟨hP, hD⟩ := x_eq e1i e1a hP hD
  exact W.iret hx hb hr (fun t9 ht hW => ⟨⟨_, (), rfl, e3.symm, by rw [ht]; exact hP, hD⟩, hS.F ht⟩) hS.2.2 d_Machine_leaveGiving_6

def m_Machine_openCall_b105 (n : Nat) (g : Nat → Nat) : Nat → (Nat → Int32) → (Nat → Nat → Int32) → Int32 → Int32 → Int32 → Option ((Nat → Int32) × (Nat → Nat → Int32) × Int32)
  | 0, _, _, _, _, _ => none
  | f + 1, i, a, v2, v3, v4 => if v3 ≤ v4 then some (i, a, (-2147483584)) else ob0 (m_Heap_member n g i a v2 v4) (fun r_3 => ob0 (m_Waiting_input n g i a v4) (fun r_5 => ob (m_Names_addLocal n g i a r_3 r_5) (fun i_7 a_8 r_9 => ob1 (v4 + 1 : Int32) (fun x_10 => m_Machine_openCall_b105 n g f i_7 a_8 v2 v3 x_10))))
set_option maxHeartbeats 4000000 in
set_option maxRecDepth 100000 in
theorem lb_Machine_openCall_105 (l : Launch) (dC : Nat → ClassId) (dI : Nat → Nat → Nat) (cI : ClassId) (adK adV adA u o g : Nat → Nat) (n : Nat) {p : Program} {e : Env} {s : State} {m : MethodId} {args : Array Value} {below : List Frame} {meth : Method} {c : Code} {A : Nat → Prop} (hx : p.tables.exec = Jvm.exec) (hb : c.code = b_Machine_openCall) (hml : c.maxLocals = 5) (hown : s.vm.findClass R_Machine = some m.cls) (hts : ∀ w ∈ w_Machine_openCall, w.before args s = true) (hK : va_K (dC, dI) classes [(cI, .int)] s) (hE : tw_E adK adV adA A s s.heap) (hA : ∀ q : Nat, s.heap.size ≤ q → A q) (hr : meth.sig.returnType = (some .int)) (hlocks : meth.locks = false) {i2 : Nat → Int32} {a2 : Nat → Nat → Int32} {r2 : Int32} : ∀ (f : Nat) (i : Nat → Int32) (a : Nat → Nat → Int32) (v2 : Int32) (v3 : Int32) (v4 : Int32), m_Machine_openCall_b105 n g f i a v2 v3 v4 = some (i2, a2, r2) → ∀ (H : Heap) (locs : List Loc) (ls : Array Slot), va_P (dC, dI) classes (TW cI u o i a g) H → va_D A (TW cI u o i a g) → va_S A s.heap H locs → lv_has ls 5 [(0, .ref ((u 11))), (2, .int v2), (3, .int v3), (4, .int v4)] → W p l e ({ frames := 2, cells := 0, slots := 0, locals := 45 } : Room) s m args below meth c H locs 0 0 (MQ below (va_Qi (xR r2) (xB dC dI cI u o g i2 a2 A) A) args s 0 0 A) (F0 m 105 ls []) := by
  have htt : ∀ w ∈ tw_T, w.before _ s = true := fun w h => hts w (List.mem_cons_of_mem _ h)
  intro f
  induction f with
  | zero =>
    intro i a v2 v3 v4 hm
    rw [m_Machine_openCall_b105] at hm
    cases hm
  | succ f ih =>
    intro i a v2 v3 v4 hm H locs ls hP hD hS hl
    rw [m_Machine_openCall_b105] at hm
    refine lv_iload hx hb d_Machine_openCall_105 (lv_at hl 3 rfl) ?_
    refine lv_iload_n hx hb d_Machine_openCall_107 rfl (lv_at hl 2 rfl) ?_
    refine lv_icmp_ge (tgt := 143) hx hb d_Machine_openCall_108 (by decide) (fun c_1 => ?_) (fun c_1 => ?_)
    · replace hm := if_t c_1 hm
      refine lv_ldc (v := (-2147483584)) hx hb hown (htt _ lk_Machine_110) d_Machine_openCall_143 ?_
      obtain ⟨e1i, e1a, e3⟩ := re3 hm
      obtain ⟨hP, hD⟩ := x_eq e1i e1a hP hD
      exact W.iret hx hb hr (fun t9 ht hW => ⟨⟨_, (), rfl, e3.symm, by rw [ht]; exact hP, hD⟩, hS.F ht⟩) hS.2.2 d_Machine_openCall_145
    · replace hm := if_f c_1 hm
      refine lv_aload_n hx hb d_Machine_openCall_111 rfl (lv_at hl 0 rfl) ?_
      refine va_get (D := (dC, dI)) (ci := 11) (v := .ref ((u 3))) (C := R_Machine) (T := F_Machine) (N := 9) hx hb htt iw_Machine hown hK hP 11 xo_11 rfl 3 (Nat.le_of_ble_eq_true rfl) (htt _ lk_Machine_26) (fun _ h9 => h9) xg_11_3 d_Machine_openCall_112 ?_
      refine lv_aload_n hx hb d_Machine_openCall_115 rfl (lv_at hl 0 rfl) ?_
      refine va_get (D := (dC, dI)) (ci := 11) (v := .ref ((u 1))) (C := R_Machine) (T := F_Machine) (N := 9) hx hb htt iw_Machine hown hK hP 11 xo_11 rfl 0 (Nat.le_of_ble_eq_true rfl) (htt _ lk_Machine_15) (fun _ h9 => h9) xg_11_0 d_Machine_openCall_116 ?_
      refine lv_iload_n hx hb d_Machine_openCall_119 rfl (lv_at hl 1 rfl) ?_
      refine lv_iload hx hb d_Machine_openCall_120 (lv_at hl 3 rfl) ?_
      obtain ⟨r_3, h_2, hm⟩ := ob0_some hm
      have hFc := x_free0 hS hA
      refine va_calli (va_runV (As := [.int v2, .int v4]) (rest := [.ref ((u 3))]) ⟨hx, hb, hml, hown, hts⟩ (x_Heap_member l dC dI cI adK adV adA u o g H.size n h_2) (cwV 2 hts (tw_GV tw_cons cw_Heap_member lk_Machine_167 in_Heap_member sel_Heap_member ini_Heap) rfl rfl rfl ⟨rfl, hd_Heap_member⟩ ⟨Nat.le_of_ble_eq_true rfl, Nat.le_of_ble_eq_true rfl⟩) (xpVr hK hP hS hE hFc xo_1 rfl) rfl rfl hl.1 rfl (lv_room (Nat.le_of_ble_eq_true rfl)) d_Machine_openCall_122 ⟨Nat.le_of_ble_eq_true rfl, Nat.le_of_ble_eq_true rfl⟩) hS (fun q _ h => hFc q h) hFc (fun r9 u9 t9 H locs ht hvm e9 hB hz1 hk1 hS => ?_)
      have e9 : r_3 = r9 := e9
      subst e9
      replace hP := x_keep hP hk1
      clear hFc hk1 hz1 hvm hB ht
      refine lv_aload_n hx hb d_Machine_openCall_125 rfl (lv_at hl 0 rfl) ?_
      refine va_get (D := (dC, dI)) (ci := 11) (v := .ref ((u 9))) (C := R_Machine) (T := F_Machine) (N := 9) hx hb htt iw_Machine hown hK hP 11 xo_11 rfl 2 (Nat.le_of_ble_eq_true rfl) (htt _ lk_Machine_22) (fun _ h9 => h9) xg_11_2 d_Machine_openCall_126 ?_
      refine lv_iload hx hb d_Machine_openCall_129 (lv_at hl 3 rfl) ?_
      obtain ⟨r_5, h_4, hm⟩ := ob0_some hm
      have hFc := x_free0 hS hA
      refine va_calli (va_runV (As := [.int v4]) (rest := [.int r_3, .ref ((u 3))]) ⟨hx, hb, hml, hown, hts⟩ (x_Waiting_input l dC dI cI adK adV adA u o g H.size n h_4) (cwV 1 hts (tw_GV tw_cons cw_Waiting_input lk_Machine_347 in_Waiting_input sel_Waiting_input ini_Waiting) rfl rfl rfl ⟨rfl, hd_Waiting_input⟩ ⟨Nat.le_of_ble_eq_true rfl, Nat.le_of_ble_eq_true rfl⟩) (xpVr hK hP hS hE hFc xo_9 rfl) rfl rfl hl.1 rfl (lv_room (Nat.le_of_ble_eq_true rfl)) d_Machine_openCall_131 ⟨Nat.le_of_ble_eq_true rfl, Nat.le_of_ble_eq_true rfl⟩) hS (fun q _ h => hFc q h) hFc (fun r9 u9 t9 H locs ht hvm e9 hB hz1 hk1 hS => ?_)
      have e9 : r_5 = r9 := e9
      subst e9
      replace hP := x_keep hP hk1
      clear hFc hk1 hz1 hvm hB ht
      obtain ⟨i_7, a_8, r_9, h_6, hm⟩ := ob_some hm
      have hFc := x_free hD hS hA
      refine va_callv (va_runV (As := [.int r_3, .int r_5]) (rest := []) ⟨hx, hb, hml, hown, hts⟩ (x_Names_addLocal l dC dI cI adK adV adA u o g H.size n h_6) (cwV 2 hts (tw_GV tw_cons cw_Names_addLocal lk_Machine_350 in_Names_addLocal sel_Names_addLocal ini_Names) rfl rfl rfl ⟨rfl, hd_Names_addLocal⟩ ⟨Nat.le_of_ble_eq_true rfl, Nat.le_of_ble_eq_true rfl⟩) (xpV hK hP hD hS hE hFc xo_3 rfl) rfl rfl hl.1 rfl (lv_room (Nat.le_of_ble_eq_true rfl)) d_Machine_openCall_134 ⟨Nat.le_of_ble_eq_true rfl, Nat.le_of_ble_eq_true rfl⟩) hS (fun q _ h => hFc q h) hFc (fun u9 t9 H locs ht hvm e9 hB hz1 hk1 hS => ?_)
      obtain ⟨hP, hD⟩ := x_aft hB ht hFc
      clear hFc hk1 hz1 hvm hB ht
      obtain ⟨x_10, ex_10⟩ : ∃ y9 : Int32, y9 = v4 + 1 := ⟨_, rfl⟩
      replace hm := ob1_at ex_10 hm
      refine lv_iinc (v := x_10) (lv' := [(4, .int x_10), (0, .ref ((u 11))), (2, .int v2), (3, .int v3)]) hx hb d_Machine_openCall_137 hl (k := 3) rfl (by rw [ex_10]; rfl) (by decide) rfl (fun ls hl => ?_)
      refine lv_goto (tgt := 105) hx hb d_Machine_openCall_140 (by decide) ?_
      exact ih _ _ _ _ _ hm _ _ _ hP hD hS (lv_sub hl [1, 2, 3, 0] rfl)
def m_Machine_openCall (n : Nat) (g : Nat → Nat) (i : Nat → Int32) (a : Nat → Nat → Int32) (v1 : Int32) : Option ((Nat → Int32) × (Nat → Nat → Int32) × Int32) := ck v1 401 (ob (m_Line_open n g i a (1 : Int32) (a 53 v1.toNatClampNeg)) (fun i_3 a_4 r_5 => if r_5 = ((0 : Int32)) then some (i_3, a_4, (-2147483642)) else ck v1 401 (ob (m_Line_note n g i_3 a_4 (a_4 48 v1.toNatClampNeg) (-2147483648 : Int32)) (fun i_9 a_10 r_11 => ck (((i_9 40) - 1)) 150 (ob1 (sv a_10 46 ((i_9 40) - 1).toNatClampNeg (i_9 13) : Nat → Nat → Int32) (fun a_13 => ob1 ((i_9 41) + 1 : Int32) (fun x_14 => ob1 (upd i_9 41 x_14 : Nat → Int32) (fun i_15 => ck v1 401 (ob1 (a_13 52 v1.toNatClampNeg : Int32) (fun x_17 => ob0 (m_Heap_count n g i_15 a_13 x_17) (fun r_19 => m_Machine_openCall_b105 n g n i_15 a_13 x_17 r_19 (0 : Int32))))))))))))
set_option maxHeartbeats 4000000 in
set_option maxRecDepth 100000 in
theorem x_Machine_openCall (l : Launch) (dC : Nat → ClassId) (dI : Nat → Nat → Nat) (cI : ClassId) (adK adV adA u o g : Nat → Nat) (sz : Nat) (n : Nat) {i : Nat → Int32} {a : Nat → Nat → Int32} {v1 : Int32} {i2 : Nat → Int32} {a2 : Nat → Nat → Int32} {r2 : Int32} (hm : m_Machine_openCall n g i a v1 = some (i2, a2, r2)) : Met l y_Machine_openCall w_Machine_openCall ({ frames := 2, cells := 0, slots := 0, locals := 45 } : Room) (va_Pc [.ref ((u 11)), .int v1] (xE dC dI cI adK adV adA u o g i a sz)) (va_Qi (xR r2) (xB dC dI cI u o g i2 a2 (va_A (TW cI u o i a g) sz)) (va_A (TW cI u o i a g) sz)) 0 0 ((va_A (TW cI u o i a g) sz)) := by
  refine Met.ofW (cc := b_Machine_openCall) (maxL := 5) (ret := (some .int)) (by decide) rfl ?_
  intro p e s m args below meth c s₁ B hml hv
  obtain ⟨rfl, hsz, hP, hK, hE, hD0⟩ := hv
  have hx := B.exec
  have hb := B.bytes
  have hr := B.returns
  have hts := atoms_spec (ws := w_Machine_openCall) B.pre
  have htt : ∀ w ∈ tw_T, w.before _ s = true := fun w h => hts w (List.mem_cons_of_mem _ h)
  have hown : s.vm.findClass R_Machine = some m.cls := findClass_of_methodNamed B.named
  have hlocks := B.notSynchronized
  subst hsz
  have hD := hD0.self (sz := s.heap.size)
  generalize hAe : (va_A (TW cI u o i a g) s.heap.size) = A at hD hE ⊢
  have hA : ∀ q : Nat, s.heap.size ≤ q → A q := fun q h => by rw [← hAe]; exact Or.inr h
  have hS : va_S A s.heap s.heap [] := va_S.rf
  have hl := lv_entry ([.ref ((u 11)), .int v1]) (n := 5) (Nat.le_of_ble_eq_true rfl)
  rw [lg_entry_eq]
  generalize (lg_sl ([.ref ((u 11)), .int v1]) ++ List.replicate (5 - (lg_sl ([.ref ((u 11)), .int v1])).length) Slot.unset).toArray = ls at hl ⊢
  have hl : lv_has ls 5 [(0, .ref ((u 11))), (1, .int v1)] := hl
  rw [m_Machine_openCall] at hm
  refine lv_aload_n hx hb d_Machine_openCall_0 rfl (lv_at hl 0 rfl) ?_
  refine va_get (D := (dC, dI)) (ci := 11) (v := .ref ((u 8))) (C := R_Machine) (T := F_Machine) (N := 9) hx hb htt iw_Machine hown hK hP 11 xo_11 rfl 1 (Nat.le_of_ble_eq_true rfl) (htt _ lk_Machine_18) (fun _ h9 => h9) xg_11_1 d_Machine_openCall_1 ?_
  refine lv_iconst (v := 1) hx hb d_Machine_openCall_4 (by decide) ?_
  refine lv_aload_n hx hb d_Machine_openCall_5 rfl (lv_at hl 0 rfl) ?_
  refine va_get (D := (dC, dI)) (ci := 11) (v := .ref ((u 9))) (C := R_Machine) (T := F_Machine) (N := 9) hx hb htt iw_Machine hown hK hP 11 xo_11 rfl 2 (Nat.le_of_ble_eq_true rfl) (htt _ lk_Machine_22) (fun _ h9 => h9) xg_11_2 d_Machine_openCall_6 ?_
  refine va_get (D := (dC, dI)) (ci := 9) (v := .ref ((u 63))) (C := R_Waiting) (T := F_Waiting) (N := 11) hx hb htt iw_Waiting hown hK hP 9 xo_9 rfl 6 (Nat.le_of_ble_eq_true rfl) (htt _ lk_Machine_337) (fun _ h9 => h9) xg_9_6 d_Machine_openCall_9 ?_
  refine lv_iload_n hx hb d_Machine_openCall_12 rfl (lv_at hl 1 rfl) ?_
  obtain ⟨h_1, hm⟩ := ck_some hm
  refine va_iald hx hb hK hP 65 0 twA_53 rfl h_1 d_Machine_openCall_13 ?_
  refine lv_aload_n hx hb d_Machine_openCall_14 rfl (lv_at hl 0 rfl) ?_
  refine va_get (D := (dC, dI)) (ci := 11) (v := .ref ((u 9))) (C := R_Machine) (T := F_Machine) (N := 9) hx hb htt iw_Machine hown hK hP 11 xo_11 rfl 2 (Nat.le_of_ble_eq_true rfl) (htt _ lk_Machine_22) (fun _ h9 => h9) xg_11_2 d_Machine_openCall_15 ?_
  obtain ⟨i_3, a_4, r_5, h_2, hm⟩ := ob_some hm
  have hFc := x_free hD hS hA
  refine va_calli (va_runV (As := [.int 1, .int (a 53 v1.toNatClampNeg), .ref ((u 9))]) (rest := []) ⟨hx, hb, hml, hown, hts⟩ (x_Line_open l dC dI cI adK adV adA u o g s.heap.size n h_2) (cwV 3 hts (tw_GV tw_cons cw_Line_open lk_Machine_58 in_Line_open sel_Line_open ini_Line) rfl rfl rfl ⟨rfl, hd_Line_open⟩ ⟨Nat.le_of_ble_eq_true rfl, Nat.le_of_ble_eq_true rfl⟩) (xpV hK hP hD hS hE hFc xo_8 rfl) rfl rfl hl.1 rfl (lv_room (Nat.le_of_ble_eq_true rfl)) d_Machine_openCall_18 ⟨Nat.le_of_ble_eq_true rfl, Nat.le_of_ble_eq_true rfl⟩) hS (fun q _ h => hFc q h) hFc (fun r9 u9 t9 H locs ht hvm e9 hB hz1 hk1 hS => ?_)
  have e9 : r_5 = r9 := e9
  subst e9
  obtain ⟨hP, hD⟩ := x_aft hB ht hFc
  clear hFc hk1 hz1 hvm hB ht
  refine lv_if_ne (tgt := 28) hx hb d_Machine_openCall_21 (by decide) (fun c_6 => ?_) (fun c_6 => ?_)
  · replace hm := if_f c_6 hm
    refine lv_aload_n hx hb d_Machine_openCall_28 rfl (lv_at hl 0 rfl) ?_
    refine va_get (D := (dC, dI)) (ci := 11) (v := .ref ((u 8))) (C := R_Machine) (T := F_Machine) (N := 9) hx hb htt iw_Machine hown hK hP 11 xo_11 rfl 1 (Nat.le_of_ble_eq_true rfl) (htt _ lk_Machine_18) (fun _ h9 => h9) xg_11_1 d_Machine_openCall_29 ?_
    refine lv_aload_n hx hb d_Machine_openCall_32 rfl (lv_at hl 0 rfl) ?_
    refine va_get (D := (dC, dI)) (ci := 11) (v := .ref ((u 9))) (C := R_Machine) (T := F_Machine) (N := 9) hx hb htt iw_Machine hown hK hP 11 xo_11 rfl 2 (Nat.le_of_ble_eq_true rfl) (htt _ lk_Machine_22) (fun _ h9 => h9) xg_11_2 d_Machine_openCall_33 ?_
    refine va_get (D := (dC, dI)) (ci := 9) (v := .ref ((u 58))) (C := R_Waiting) (T := F_Waiting) (N := 11) hx hb htt iw_Waiting hown hK hP 9 xo_9 rfl 1 (Nat.le_of_ble_eq_true rfl) (htt _ lk_Machine_302) (fun _ h9 => h9) xg_9_1 d_Machine_openCall_36 ?_
    refine lv_iload_n hx hb d_Machine_openCall_39 rfl (lv_at hl 1 rfl) ?_
    obtain ⟨h_7, hm⟩ := ck_some hm
    refine va_iald hx hb hK hP 60 0 twA_48 rfl h_7 d_Machine_openCall_40 ?_
    refine lv_ldc (v := (-2147483648)) hx hb hown (htt _ lk_Machine_114) d_Machine_openCall_41 ?_
    obtain ⟨i_9, a_10, r_11, h_8, hm⟩ := ob_some hm
    have hFc := x_free hD hS hA
    refine va_callv (va_runV (As := [.int (a_4 48 v1.toNatClampNeg), .int ((-2147483648))]) (rest := []) ⟨hx, hb, hml, hown, hts⟩ (x_Line_note l dC dI cI adK adV adA u o g H.size n h_8) (cwV 2 hts (tw_GV tw_cons cw_Line_note lk_Machine_341 in_Line_note sel_Line_note ini_Line) rfl rfl rfl ⟨rfl, hd_Line_note⟩ ⟨Nat.le_of_ble_eq_true rfl, Nat.le_of_ble_eq_true rfl⟩) (xpV hK hP hD hS hE hFc xo_8 rfl) rfl rfl hl.1 rfl (lv_room (Nat.le_of_ble_eq_true rfl)) d_Machine_openCall_43 ⟨Nat.le_of_ble_eq_true rfl, Nat.le_of_ble_eq_true rfl⟩) hS (fun q _ h => hFc q h) hFc (fun u9 t9 H locs ht hvm e9 hB hz1 hk1 hS => ?_)
    obtain ⟨hP, hD⟩ := x_aft hB ht hFc
    clear hFc hk1 hz1 hvm hB ht
    refine lv_aload_n hx hb d_Machine_openCall_46 rfl (lv_at hl 0 rfl) ?_
    refine va_get (D := (dC, dI)) (ci := 11) (v := .ref ((u 8))) (C := R_Machine) (T := F_Machine) (N := 9) hx hb htt iw_Machine hown hK hP 11 xo_11 rfl 1 (Nat.le_of_ble_eq_true rfl) (htt _ lk_Machine_18) (fun _ h9 => h9) xg_11_1 d_Machine_openCall_47 ?_
    refine va_get (D := (dC, dI)) (ci := 8) (v := .ref ((u 56))) (C := R_Line) (T := F_Line) (N := 18) hx hb htt iw_Line hown hK hP 8 xo_8 rfl 17 (Nat.le_of_ble_eq_true rfl) (htt _ lk_Machine_145) (fun _ h9 => h9) xg_8_17 d_Machine_openCall_50 ?_
    refine lv_aload_n hx hb d_Machine_openCall_53 rfl (lv_at hl 0 rfl) ?_
    refine va_get (D := (dC, dI)) (ci := 11) (v := .ref ((u 8))) (C := R_Machine) (T := F_Machine) (N := 9) hx hb htt iw_Machine hown hK hP 11 xo_11 rfl 1 (Nat.le_of_ble_eq_true rfl) (htt _ lk_Machine_18) (fun _ h9 => h9) xg_11_1 d_Machine_openCall_54 ?_
    refine va_get (D := (dC, dI)) (ci := 8) (v := .int (i_9 40)) (C := R_Line) (T := F_Line) (N := 18) hx hb htt iw_Line hown hK hP 8 xo_8 rfl 6 (Nat.le_of_ble_eq_true rfl) (htt _ lk_Machine_130) (fun _ h9 => h9) xg_8_6 d_Machine_openCall_57 ?_
    refine lv_iconst (v := 1) hx hb d_Machine_openCall_60 (by decide) ?_
    refine lv_isub hx hb d_Machine_openCall_61 ?_
    refine lv_aload_n hx hb d_Machine_openCall_62 rfl (lv_at hl 0 rfl) ?_
    refine va_get (D := (dC, dI)) (ci := 11) (v := .ref ((u 3))) (C := R_Machine) (T := F_Machine) (N := 9) hx hb htt iw_Machine hown hK hP 11 xo_11 rfl 3 (Nat.le_of_ble_eq_true rfl) (htt _ lk_Machine_26) (fun _ h9 => h9) xg_11_3 d_Machine_openCall_63 ?_
    refine va_get (D := (dC, dI)) (ci := 3) (v := .int (i_9 13)) (C := R_Names) (T := F_Names) (N := 9) hx hb htt iw_Names hown hK hP 3 xo_3 rfl 6 (Nat.le_of_ble_eq_true rfl) (htt _ lk_Machine_344) (fun _ h9 => h9) xg_3_6 d_Machine_openCall_66 ?_
    obtain ⟨h_12, hm⟩ := ck_some hm
    refine va_iast hx hb hK hP hD hS 58 0 twA_46 rfl h_12 d_Machine_openCall_69 (fun H locs hP hD hS => ?_)
    obtain ⟨a_13, ea_13⟩ : ∃ y9 : Nat → Nat → Int32, y9 = sv a_10 46 ((i_9 40) - 1).toNatClampNeg (i_9 13) := ⟨_, rfl⟩
    replace hm := ob1_at ea_13 hm
    obtain ⟨hP, hD⟩ := xv_46 ea_13 hP hD
    refine lv_aload_n hx hb d_Machine_openCall_70 rfl (lv_at hl 0 rfl) ?_
    refine va_get (D := (dC, dI)) (ci := 11) (v := .ref ((u 8))) (C := R_Machine) (T := F_Machine) (N := 9) hx hb htt iw_Machine hown hK hP 11 xo_11 rfl 1 (Nat.le_of_ble_eq_true rfl) (htt _ lk_Machine_18) (fun _ h9 => h9) xg_11_1 d_Machine_openCall_71 ?_
    refine lv_dup hx hb d_Machine_openCall_74 rfl ?_
    refine va_get (D := (dC, dI)) (ci := 8) (v := .int (i_9 41)) (C := R_Line) (T := F_Line) (N := 18) hx hb htt iw_Line hown hK hP 8 xo_8 rfl 7 (Nat.le_of_ble_eq_true rfl) (htt _ lk_Machine_148) (fun _ h9 => h9) xg_8_7 d_Machine_openCall_75 ?_
    refine lv_iconst (v := 1) hx hb d_Machine_openCall_78 (by decide) ?_
    refine lv_iadd hx hb d_Machine_openCall_79 ?_
    refine lv_topi (fun x_14 ex_14 => ?_)
    replace hm := ob1_at ex_14 hm
    refine va_put (D := (dC, dI)) (ci := 8) (v := .int x_14) (ty := .int) (C := R_Line) (T := F_Line) (N := 18) hx hb htt iw_Line t_Line t_Line_ok n_Line hown hK hP hD hS 8 xo_8 rfl 7 (Nat.le_of_ble_eq_true rfl) (htt _ lk_Machine_148) (fun _ h9 => h9) rfl (by decide +kernel) rfl rfl xl_8_7 d_Machine_openCall_80 (fun H locs hP hD hS => ?_)
    obtain ⟨i_15, ei_15⟩ : ∃ y9 : Nat → Int32, y9 = upd i_9 41 x_14 := ⟨_, rfl⟩
    replace hm := ob1_at ei_15 hm
    obtain ⟨hP, hD⟩ := xw_41 ei_15 hP hD
    refine lv_aload_n hx hb d_Machine_openCall_83 rfl (lv_at hl 0 rfl) ?_
    refine va_get (D := (dC, dI)) (ci := 11) (v := .ref ((u 9))) (C := R_Machine) (T := F_Machine) (N := 9) hx hb htt iw_Machine hown hK hP 11 xo_11 rfl 2 (Nat.le_of_ble_eq_true rfl) (htt _ lk_Machine_22) (fun _ h9 => h9) xg_11_2 d_Machine_openCall_84 ?_
    refine va_get (D := (dC, dI)) (ci := 9) (v := .ref ((u 62))) (C := R_Waiting) (T := F_Waiting) (N := 11) hx hb htt iw_Waiting hown hK hP 9 xo_9 rfl 5 (Nat.le_of_ble_eq_true rfl) (htt _ lk_Machine_346) (fun _ h9 => h9) xg_9_5 d_Machine_openCall_87 ?_
    refine lv_iload_n hx hb d_Machine_openCall_90 rfl (lv_at hl 1 rfl) ?_
    obtain ⟨h_16, hm⟩ := ck_some hm
    refine va_iald hx hb hK hP 64 0 twA_52 rfl h_16 d_Machine_openCall_91 ?_
    refine lv_topi (fun x_17 ex_17 => ?_)
    replace hm := ob1_at ex_17 hm
    refine lv_istore_n (lv' := [(2, .int x_17), (0, .ref ((u 11))), (1, .int v1)]) hx hb d_Machine_openCall_92 rfl hl (by decide) rfl (fun ls hl => ?_)
    refine lv_aload_n hx hb d_Machine_openCall_93 rfl (lv_at hl 1 rfl) ?_
    refine va_get (D := (dC, dI)) (ci := 11) (v := .ref ((u 1))) (C := R_Machine) (T := F_Machine) (N := 9) hx hb htt iw_Machine hown hK hP 11 xo_11 rfl 0 (Nat.le_of_ble_eq_true rfl) (htt _ lk_Machine_15) (fun _ h9 => h9) xg_11_0 d_Machine_openCall_94 ?_
    refine lv_iload_n hx hb d_Machine_openCall_97 rfl (lv_at hl 0 rfl) ?_
    obtain ⟨r_19, h_18, hm⟩ := ob0_some hm
    have hFc := x_free0 hS hA
    refine va_calli (va_runV (As := [.int x_17]) (rest := []) ⟨hx, hb, hml, hown, hts⟩ (x_Heap_count l dC dI cI adK adV adA u o g H.size n h_18) (cwV 1 hts (tw_GV tw_cons cw_Heap_count lk_Machine_221 in_Heap_count sel_Heap_count ini_Heap) rfl rfl rfl ⟨rfl, hd_Heap_count⟩ ⟨Nat.le_of_ble_eq_true rfl, Nat.le_of_ble_eq_true rfl⟩) (xpVr hK hP hS hE hFc xo_1 rfl) rfl rfl hl.1 rfl (lv_room (Nat.le_of_ble_eq_true rfl)) d_Machine_openCall_98 ⟨Nat.le_of_ble_eq_true rfl, Nat.le_of_ble_eq_true rfl⟩) hS (fun q _ h => hFc q h) hFc (fun r9 u9 t9 H locs ht hvm e9 hB hz1 hk1 hS => ?_)
    have e9 : r_19 = r9 := e9
    subst e9
    replace hP := x_keep hP hk1
    clear hFc hk1 hz1 hvm hB ht
    refine lv_istore_n (lv' := [(3, .int r_19), (2, .int x_17), (0, .ref ((u 11))), (1, .int v1)]) hx hb d_Machine_openCall_101 rfl hl (by decide) rfl (fun ls hl => ?_)
    refine lv_iconst (v := 0) hx hb d_Machine_openCall_102 (by decide) ?_
    refine lv_istore (lv' := [(4, .int 0), (3, .int r_19), (2, .int x_17), (0, .ref ((u 11))), (1, .int v1)]) hx hb d_Machine_openCall_103 hl (by decide) rfl (fun ls hl => ?_)
    exact lb_Machine_openCall_105 l dC dI cI adK adV adA u o g n hx hb hml hown hts hK hE hA hr hlocks n _ _ _ _ _ hm _ _ _ hP hD hS (lv_sub hl [3, 2, 1, 0] rfl)
  · replace hm := if_t c_6 hm
    refine lv_ldcw (v := (-2147483642)) hx hb hown (htt _ lk_Machine_340) d_Machine_openCall_24 ?_
    obtain ⟨e1i, e1a, e3⟩ := re3 hm
    obtain ⟨hP, hD⟩ := x_eq e1i e1a hP hD
    exact W.iret hx hb hr (fun t9 ht hW => ⟨⟨_, (), rfl, e3.symm, by rw [ht]; exact hP, hD⟩, hS.F ht⟩) hS.2.2 d_Machine_openCall_27

def m_Deeds_inputsFit_b14 (n : Nat) (g : Nat → Nat) (i : Nat → Int32) (a : Nat → Nat → Int32) : Nat → Int32 → Int32 → Int32 → Option (Int32)
  | 0, _, _, _ => none
  | f + 1, v1, v2, v3 => if v2 ≤ v3 then some 1 else ob0 (m_Lexicon_kind n g i a v1 v3) (fun r_3 => ob0 (m_Waiting_input n g i a v3) (fun r_5 => ob0 (m_Deeds_fits n g i a r_3 r_5) (fun r_7 => if r_7 = ((0 : Int32)) then some 0 else ob1 (v3 + 1 : Int32) (fun x_9 => m_Deeds_inputsFit_b14 n g i a f v1 v2 x_9))))
set_option maxHeartbeats 4000000 in
set_option maxRecDepth 100000 in
theorem lb_Deeds_inputsFit_14 (l : Launch) (dC : Nat → ClassId) (dI : Nat → Nat → Nat) (cI : ClassId) (adK adV adA u o g : Nat → Nat) (n : Nat) {p : Program} {e : Env} {s : State} {m : MethodId} {args : Array Value} {below : List Frame} {meth : Method} {c : Code} {A : Nat → Prop} (hx : p.tables.exec = Jvm.exec) (hb : c.code = b_Deeds_inputsFit) (hml : c.maxLocals = 4) (hown : s.vm.findClass R_Deeds = some m.cls) (hts : ∀ w ∈ w_Deeds_inputsFit, w.before args s = true) (hK : va_K (dC, dI) classes [(cI, .int)] s) (hE : tw_E adK adV adA A s s.heap) (hA : ∀ q : Nat, s.heap.size ≤ q → A q) (hr : meth.sig.returnType = (some .boolean)) (hlocks : meth.locks = false) {i : Nat → Int32} {a : Nat → Nat → Int32} {r2 : Int32} : ∀ (f : Nat) (v1 : Int32) (v2 : Int32) (v3 : Int32), m_Deeds_inputsFit_b14 n g i a f v1 v2 v3 = some r2 → ∀ (H : Heap) (locs : List Loc) (ls : Array Slot), va_P (dC, dI) classes (TW cI u o i a g) H → va_S A s.heap H locs → lv_has ls 4 [(0, .ref ((u 10))), (1, .int v1), (2, .int v2), (3, .int v3)] → W p l e ({ frames := 2, cells := 0, slots := 0, locals := 48 } : Room) s m args below meth c H locs 0 0 (MQ below (va_Qi (xR r2) xT A) args s 0 0 A) (F0 m 14 ls []) := by
  have htt : ∀ w ∈ tw_T, w.before _ s = true := fun w h => hts w (List.mem_cons_of_mem _ h)
  intro f
  induction f with
  | zero =>
    intro v1 v2 v3 hm
    rw [m_Deeds_inputsFit_b14] at hm
    cases hm
  | succ f ih =>
    intro v1 v2 v3 hm H locs ls hP hS hl
    rw [m_Deeds_inputsFit_b14] at hm
    refine lv_iload_n hx hb d_Deeds_inputsFit_14 rfl (lv_at hl 3 rfl) ?_
    refine lv_iload_n hx hb d_Deeds_inputsFit_15 rfl (lv_at hl 2 rfl) ?_
    refine lv_icmp_ge (tgt := 54) hx hb d_Deeds_inputsFit_16 (by decide) (fun c_1 => ?_) (fun c_1 => ?_)
    · replace hm := if_t c_1 hm
      refine lv_iconst (v := 1) hx hb d_Deeds_inputsFit_54 (by decide) ?_
      have e3 := re1 hm
      exact W.zret hx hb hr (by decide) (fun t9 ht hW => ⟨⟨_, (), rfl, e3.symm, trivial⟩, hS.F ht⟩) hS.2.2 d_Deeds_inputsFit_55
    · replace hm := if_f c_1 hm
      refine lv_aload_n hx hb d_Deeds_inputsFit_19 rfl (lv_at hl 0 rfl) ?_
      refine lv_aload_n hx hb d_Deeds_inputsFit_20 rfl (lv_at hl 0 rfl) ?_
      refine va_get (D := (dC, dI)) (ci := 10) (v := .ref ((u 1))) (C := R_Deeds) (T := F_Deeds) (N := 8) hx hb htt iw_Deeds hown hK hP 10 xo_10 rfl 0 (Nat.le_of_ble_eq_true rfl) (htt _ lk_Deeds_15) (fun _ h9 => h9) xg_10_0 d_Deeds_inputsFit_21 ?_
      refine va_get (D := (dC, dI)) (ci := 1) (v := .ref ((u 2))) (C := R_Heap) (T := F_Heap) (N := 12) hx hb htt iw_Heap hown hK hP 1 xo_1 rfl 0 (Nat.le_of_ble_eq_true rfl) (htt _ lk_Deeds_46) (fun _ h9 => h9) xg_1_0 d_Deeds_inputsFit_24 ?_
      refine lv_iload_n hx hb d_Deeds_inputsFit_27 rfl (lv_at hl 1 rfl) ?_
      refine lv_iload_n hx hb d_Deeds_inputsFit_28 rfl (lv_at hl 3 rfl) ?_
      obtain ⟨r_3, h_2, hm⟩ := ob0_some hm
      have hFc := x_free0 hS hA
      refine va_calli (va_runV (As := [.int v1, .int v3]) (rest := [.ref ((u 10))]) ⟨hx, hb, hml, hown, hts⟩ (x_Lexicon_kind l dC dI cI adK adV adA u o g H.size n h_2) (cwV 2 hts (tw_GV tw_cons cw_Lexicon_kind lk_Deeds_58 in_Lexicon_kind sel_Lexicon_kind ini_Lexicon) rfl rfl rfl ⟨rfl, hd_Lexicon_kind⟩ ⟨Nat.le_of_ble_eq_true rfl, Nat.le_of_ble_eq_true rfl⟩) (xpVr hK hP hS hE hFc xo_2 rfl) rfl rfl hl.1 rfl (lv_room (Nat.le_of_ble_eq_true rfl)) d_Deeds_inputsFit_29 ⟨Nat.le_of_ble_eq_true rfl, Nat.le_of_ble_eq_true rfl⟩) hS (fun q _ h => hFc q h) hFc (fun r9 u9 t9 H locs ht hvm e9 hB hz1 hk1 hS => ?_)
      have e9 : r_3 = r9 := e9
      subst e9
      replace hP := x_keep hP hk1
      clear hFc hk1 hz1 hvm hB ht
      refine lv_aload_n hx hb d_Deeds_inputsFit_32 rfl (lv_at hl 0 rfl) ?_
      refine va_get (D := (dC, dI)) (ci := 10) (v := .ref ((u 9))) (C := R_Deeds) (T := F_Deeds) (N := 8) hx hb htt iw_Deeds hown hK hP 10 xo_10 rfl 2 (Nat.le_of_ble_eq_true rfl) (htt _ lk_Deeds_22) (fun _ h9 => h9) xg_10_2 d_Deeds_inputsFit_33 ?_
      refine lv_iload_n hx hb d_Deeds_inputsFit_36 rfl (lv_at hl 3 rfl) ?_
      obtain ⟨r_5, h_4, hm⟩ := ob0_some hm
      have hFc := x_free0 hS hA
      refine va_calli (va_runV (As := [.int v3]) (rest := [.int r_3, .ref ((u 10))]) ⟨hx, hb, hml, hown, hts⟩ (x_Waiting_input l dC dI cI adK adV adA u o g H.size n h_4) (cwV 1 hts (tw_GV tw_cons cw_Waiting_input lk_Deeds_62 in_Waiting_input sel_Waiting_input ini_Waiting) rfl rfl rfl ⟨rfl, hd_Waiting_input⟩ ⟨Nat.le_of_ble_eq_true rfl, Nat.le_of_ble_eq_true rfl⟩) (xpVr hK hP hS hE hFc xo_9 rfl) rfl rfl hl.1 rfl (lv_room (Nat.le_of_ble_eq_true rfl)) d_Deeds_inputsFit_37 ⟨Nat.le_of_ble_eq_true rfl, Nat.le_of_ble_eq_true rfl⟩) hS (fun q _ h => hFc q h) hFc (fun r9 u9 t9 H locs ht hvm e9 hB hz1 hk1 hS => ?_)
      have e9 : r_5 = r9 := e9
      subst e9
      replace hP := x_keep hP hk1
      clear hFc hk1 hz1 hvm hB ht
      obtain ⟨r_7, h_6, hm⟩ := ob0_some hm
      have hFc := x_free0 hS hA
      refine va_calli (va_runV (As := [.int r_3, .int r_5]) (rest := []) ⟨hx, hb, hml, hown, hts⟩ (x_Deeds_fits l dC dI cI adK adV adA u o g H.size n h_6) (cwV 2 hts (tw_GV tw_cons cw_Deeds_fits lk_Deeds_67 in_Deeds_fits sel_Deeds_fits ini_Deeds) rfl rfl rfl ⟨rfl, hd_Deeds_fits⟩ ⟨Nat.le_of_ble_eq_true rfl, Nat.le_of_ble_eq_true rfl⟩) (xpVr hK hP hS hE hFc xo_10 rfl) rfl rfl hl.1 rfl (lv_room (Nat.le_of_ble_eq_true rfl)) d_Deeds_inputsFit_40 ⟨Nat.le_of_ble_eq_true rfl, Nat.le_of_ble_eq_true rfl⟩) hS (fun q _ h => hFc q h) hFc (fun r9 u9 t9 H locs ht hvm e9 hB hz1 hk1 hS => ?_)
      have e9 : r_7 = r9 := e9
      subst e9
      replace hP := x_keep hP hk1
      clear hFc hk1 hz1 hvm hB ht
      refine lv_if_ne (tgt := 48) hx hb d_Deeds_inputsFit_43 (by decide) (fun c_8 => ?_) (fun c_8 => ?_)
      · replace hm := if_f c_8 hm
        obtain ⟨x_9, ex_9⟩ : ∃ y9 : Int32, y9 = v3 + 1 := ⟨_, rfl⟩
        replace hm := ob1_at ex_9 hm
        refine lv_iinc (v := x_9) (lv' := [(3, .int x_9), (0, .ref ((u 10))), (1, .int v1), (2, .int v2)]) hx hb d_Deeds_inputsFit_48 hl (k := 3) rfl (by rw [ex_9]; rfl) (by decide) rfl (fun ls hl => ?_)
        refine lv_goto (tgt := 14) hx hb d_Deeds_inputsFit_51 (by decide) ?_
        exact ih _ _ _ hm _ _ _ hP hS (lv_sub hl [1, 2, 3, 0] rfl)
      · replace hm := if_t c_8 hm
        refine lv_iconst (v := 0) hx hb d_Deeds_inputsFit_46 (by decide) ?_
        have e3 := re1 hm
        exact W.zret hx hb hr (by decide) (fun t9 ht hW => ⟨⟨_, (), rfl, e3.symm, trivial⟩, hS.F ht⟩) hS.2.2 d_Deeds_inputsFit_47
def m_Deeds_inputsFit (n : Nat) (g : Nat → Nat) (i : Nat → Int32) (a : Nat → Nat → Int32) (v1 : Int32) : Option (Int32) := ob0 (m_Lexicon_arity n g i a v1) (fun r_2 => m_Deeds_inputsFit_b14 n g i a n v1 r_2 (0 : Int32))
set_option maxHeartbeats 4000000 in
set_option maxRecDepth 100000 in
theorem x_Deeds_inputsFit (l : Launch) (dC : Nat → ClassId) (dI : Nat → Nat → Nat) (cI : ClassId) (adK adV adA u o g : Nat → Nat) (sz : Nat) (n : Nat) {i : Nat → Int32} {a : Nat → Nat → Int32} {v1 : Int32} {r2 : Int32} (hm : m_Deeds_inputsFit n g i a v1 = some r2) : Met l y_Deeds_inputsFit w_Deeds_inputsFit ({ frames := 2, cells := 0, slots := 0, locals := 48 } : Room) (va_Pc [.ref ((u 10)), .int v1] (xEr dC dI cI adK adV adA u o g i a sz)) (va_Qi (xR r2) xT (xN sz)) 0 0 (xN sz) := by
  refine Met.ofW (cc := b_Deeds_inputsFit) (maxL := 4) (ret := (some .boolean)) (by decide) rfl ?_
  intro p e s m args below meth c s₁ B hml hv
  obtain ⟨rfl, hsz, hP, hK, hE⟩ := hv
  have hx := B.exec
  have hb := B.bytes
  have hr := B.returns
  have hts := atoms_spec (ws := w_Deeds_inputsFit) B.pre
  have htt : ∀ w ∈ tw_T, w.before _ s = true := fun w h => hts w (List.mem_cons_of_mem _ h)
  have hown : s.vm.findClass R_Deeds = some m.cls := findClass_of_methodNamed B.named
  have hlocks := B.notSynchronized
  subst hsz
  generalize hAe : xN s.heap.size = A at hE ⊢
  have hA : ∀ q : Nat, s.heap.size ≤ q → A q := fun q h => by rw [← hAe]; exact Or.inr h
  have hS : va_S A s.heap s.heap [] := va_S.rf
  have hl := lv_entry ([.ref ((u 10)), .int v1]) (n := 4) (Nat.le_of_ble_eq_true rfl)
  rw [lg_entry_eq]
  generalize (lg_sl ([.ref ((u 10)), .int v1]) ++ List.replicate (4 - (lg_sl ([.ref ((u 10)), .int v1])).length) Slot.unset).toArray = ls at hl ⊢
  have hl : lv_has ls 4 [(0, .ref ((u 10))), (1, .int v1)] := hl
  rw [m_Deeds_inputsFit] at hm
  refine lv_aload_n hx hb d_Deeds_inputsFit_0 rfl (lv_at hl 0 rfl) ?_
  refine va_get (D := (dC, dI)) (ci := 10) (v := .ref ((u 1))) (C := R_Deeds) (T := F_Deeds) (N := 8) hx hb htt iw_Deeds hown hK hP 10 xo_10 rfl 0 (Nat.le_of_ble_eq_true rfl) (htt _ lk_Deeds_15) (fun _ h9 => h9) xg_10_0 d_Deeds_inputsFit_1 ?_
  refine va_get (D := (dC, dI)) (ci := 1) (v := .ref ((u 2))) (C := R_Heap) (T := F_Heap) (N := 12) hx hb htt iw_Heap hown hK hP 1 xo_1 rfl 0 (Nat.le_of_ble_eq_true rfl) (htt _ lk_Deeds_46) (fun _ h9 => h9) xg_1_0 d_Deeds_inputsFit_4 ?_
  refine lv_iload_n hx hb d_Deeds_inputsFit_7 rfl (lv_at hl 1 rfl) ?_
  obtain ⟨r_2, h_1, hm⟩ := ob0_some hm
  have hFc := x_free0 hS hA
  refine va_calli (va_runV (As := [.int v1]) (rest := []) ⟨hx, hb, hml, hown, hts⟩ (x_Lexicon_arity l dC dI cI adK adV adA u o g s.heap.size n h_1) (cwV 1 hts (tw_GV tw_cons cw_Lexicon_arity lk_Deeds_52 in_Lexicon_arity sel_Lexicon_arity ini_Lexicon) rfl rfl rfl ⟨rfl, hd_Lexicon_arity⟩ ⟨Nat.le_of_ble_eq_true rfl, Nat.le_of_ble_eq_true rfl⟩) (xpVr hK hP hS hE hFc xo_2 rfl) rfl rfl hl.1 rfl (lv_room (Nat.le_of_ble_eq_true rfl)) d_Deeds_inputsFit_8 ⟨Nat.le_of_ble_eq_true rfl, Nat.le_of_ble_eq_true rfl⟩) hS (fun q _ h => hFc q h) hFc (fun r9 u9 t9 H locs ht hvm e9 hB hz1 hk1 hS => ?_)
  have e9 : r_2 = r9 := e9
  subst e9
  replace hP := x_keep hP hk1
  clear hFc hk1 hz1 hvm hB ht
  refine lv_istore_n (lv' := [(2, .int r_2), (0, .ref ((u 10))), (1, .int v1)]) hx hb d_Deeds_inputsFit_11 rfl hl (by decide) rfl (fun ls hl => ?_)
  refine lv_iconst (v := 0) hx hb d_Deeds_inputsFit_12 (by decide) ?_
  refine lv_istore_n (lv' := [(3, .int 0), (2, .int r_2), (0, .ref ((u 10))), (1, .int v1)]) hx hb d_Deeds_inputsFit_13 rfl hl (by decide) rfl (fun ls hl => ?_)
  exact lb_Deeds_inputsFit_14 l dC dI cI adK adV adA u o g n hx hb hml hown hts hK hE hA hr hlocks n _ _ _ hm _ _ _ hP hS (lv_sub hl [2, 3, 1, 0] rfl)

def m_Math_max2 (n : Nat) (v0 : Int64) (v2 : Int64) : Option (Int64) := if ((lg_cmp v0 v2)) < ((0 : Int32)) then some v2 else some v0
set_option maxHeartbeats 4000000 in
set_option maxRecDepth 100000 in
theorem x_Math_max2 (l : Launch) (sz : Nat) (n : Nat) {v0 : Int64} {v2 : Int64} {r2 : Int64} (hm : m_Math_max2 n v0 v2 = some r2) : Met l y_Math_max2 w_Math_max2 ({ frames := 0, cells := 0, slots := 0, locals := 0 } : Room) (va_Pc [.long v0, .long v2] (xE0 sz)) (va_Ql (xR r2) xT (xN sz)) 0 0 (xN sz) := by
  refine mt_ofW (cc := b_Math_max2) (maxL := 4) (ret := (some .long)) (by decide +kernel) rfl ?_
  intro p e s m args below meth c s₁ B hml hv
  obtain ⟨rfl, hsz⟩ := hv
  have hx := B.exec
  have hb := B.bytes
  have hr := B.returns
  have hts := atoms_spec (ws := w_Math_max2) B.pre
  have htt : ∀ w ∈ tw_T, w.before _ s = true := fun w h => hts w (List.mem_cons_of_mem _ h)
  have hown : s.vm.findClass "java/lang/Math" = some m.cls := findClass_of_methodNamed B.named
  have hlocks := B.notSynchronized
  subst hsz
  generalize hAe : xN s.heap.size = A
  have hA : ∀ q : Nat, s.heap.size ≤ q → A q := fun q h => by rw [← hAe]; exact Or.inr h
  have hS : va_S A s.heap s.heap [] := va_S.rf
  have hl := lv_entry ([.long v0, .long v2]) (n := 4) (Nat.le_of_ble_eq_true rfl)
  rw [lg_entry_eq]
  generalize (lg_sl ([.long v0, .long v2]) ++ List.replicate (4 - (lg_sl ([.long v0, .long v2])).length) Slot.unset).toArray = ls at hl ⊢
  have hl : lv_has ls 4 [(0, .long v0), (2, .long v2)] := hl
  rw [m_Math_max2] at hm
  refine lv_lload_n hx hb d_Math_max2_0 rfl (lv_at hl 0 rfl) ?_
  refine lv_lload_n hx hb d_Math_max2_1 rfl (lv_at hl 1 rfl) ?_
  refine W.lcmp hx hb d_Math_max2_2 ?_
  refine lv_if_lt (tgt := 10) hx hb d_Math_max2_3 (by decide) (fun c_1 => ?_) (fun c_1 => ?_)
  · replace hm := if_t c_1 hm
    refine lv_lload_n hx hb d_Math_max2_10 rfl (lv_at hl 1 rfl) ?_
    have e3 := re1 hm
    exact W.lret hx hb hr (fun t9 ht hW => ⟨⟨_, (), rfl, e3.symm, trivial⟩, hS.F ht⟩) hS.2.2 d_Math_max2_11
  · replace hm := if_f c_1 hm
    refine lv_lload_n hx hb d_Math_max2_6 rfl (lv_at hl 0 rfl) ?_
    refine lv_goto (tgt := 11) hx hb d_Math_max2_7 (by decide) ?_
    have e3 := re1 hm
    exact W.lret hx hb hr (fun t9 ht hW => ⟨⟨_, (), rfl, e3.symm, trivial⟩, hS.F ht⟩) hS.2.2 d_Math_max2_11

def m_Turtles_draw_b333 (n : Nat) (g : Nat → Nat) (rc_173 : (Nat → Int32) → (Nat → Nat → Int32) → Int32 → Int32 → Int32 → Int32 → Int32 → Int32 → Int32 → Option ((Nat → Int32) × (Nat → Nat → Int32) × Int32)) (i : Nat → Int32) (a : Nat → Nat → Int32) (v1 : Int32) (v2 : Int32) (v3 : Int32) (v4 : Int32) (v5 : Int32) (v10 : Int32) (v11 : Int32) : Option ((Nat → Int32) × (Nat → Nat → Int32) × Int32) := ob1 (v11 + 1 : Int32) (fun x_1 => rc_173 i a v1 v2 v3 v4 v5 v10 x_1)
set_option maxHeartbeats 4000000 in
set_option maxRecDepth 100000 in
theorem lb_Turtles_draw_333 (l : Launch) (dC : Nat → ClassId) (dI : Nat → Nat → Nat) (cI : ClassId) (adK adV adA u o g : Nat → Nat) (n : Nat) {p : Program} {e : Env} {s : State} {m : MethodId} {args : Array Value} {below : List Frame} {meth : Method} {c : Code} {A : Nat → Prop} (hx : p.tables.exec = Jvm.exec) (hb : c.code = b_Turtles_draw) (hml : c.maxLocals = 15) (hown : s.vm.findClass R_Turtles = some m.cls) (hts : ∀ w ∈ w_Turtles_draw, w.before args s = true) (hK : va_K (dC, dI) classes [(cI, .int)] s) (hE : tw_E adK adV adA A s s.heap) (hA : ∀ q : Nat, s.heap.size ≤ q → A q) (hr : meth.sig.returnType = none) (hlocks : meth.locks = false) {i2 : Nat → Int32} {a2 : Nat → Nat → Int32} {r2 : Int32} (rc_173 : (Nat → Int32) → (Nat → Nat → Int32) → Int32 → Int32 → Int32 → Int32 → Int32 → Int32 → Int32 → Option ((Nat → Int32) × (Nat → Nat → Int32) × Int32)) (Hrc_173 : ∀ (i : Nat → Int32) (a : Nat → Nat → Int32) (v1 : Int32) (v2 : Int32) (v3 : Int32) (v4 : Int32) (v5 : Int32) (v10 : Int32) (v11 : Int32), rc_173 i a v1 v2 v3 v4 v5 v10 v11 = some (i2, a2, r2) → ∀ (H : Heap) (locs : List Loc) (ls : Array Slot), va_P (dC, dI) classes (TW cI u o i a g) H → va_D A (TW cI u o i a g) → va_S A s.heap H locs → lv_has ls 15 [(0, .ref ((u 5))), (1, .int v1), (2, .int v2), (3, .int v3), (4, .int v4), (5, .int v5), (7, .ref ((u 33))), (8, .ref ((u 32))), (10, .int v10), (11, .int v11)] → W p l e ({ frames := 2, cells := 0, slots := 0, locals := 55 } : Room) s m args below meth c H locs 0 0 (MQ below (va_Qv xV (xB dC dI cI u o g i2 a2 A) A) args s 0 0 A) (F0 m 173 ls [])) (i : Nat → Int32) (a : Nat → Nat → Int32) (v1 : Int32) (v2 : Int32) (v3 : Int32) (v4 : Int32) (v5 : Int32) (v10 : Int32) (v11 : Int32) (hm : m_Turtles_draw_b333 n g rc_173 i a v1 v2 v3 v4 v5 v10 v11 = some (i2, a2, r2)) : ∀ (H : Heap) (locs : List Loc) (ls : Array Slot), va_P (dC, dI) classes (TW cI u o i a g) H → va_D A (TW cI u o i a g) → va_S A s.heap H locs → lv_has ls 15 [(0, .ref ((u 5))), (1, .int v1), (2, .int v2), (3, .int v3), (4, .int v4), (5, .int v5), (7, .ref ((u 33))), (8, .ref ((u 32))), (10, .int v10), (11, .int v11)] → W p l e ({ frames := 2, cells := 0, slots := 0, locals := 55 } : Room) s m args below meth c H locs 0 0 (MQ below (va_Qv xV (xB dC dI cI u o g i2 a2 A) A) args s 0 0 A) (F0 m 333 ls []) := by
  have htt : ∀ w ∈ tw_T, w.before _ s = true := fun w h => hts w (List.mem_cons_of_mem _ h)
  intro H locs ls hP hD hS hl
  rw [m_Turtles_draw_b333] at hm
  obtain ⟨x_1, ex_1⟩ : ∃ y9 : Int32, y9 = v11 + 1 := ⟨_, rfl⟩
  replace hm := ob1_at ex_1 hm
  refine lv_iinc (v := x_1) (lv' := [(11, .int x_1), (0, .ref ((u 5))), (1, .int v1), (2, .int v2), (3, .int v3), (4, .int v4), (5, .int v5), (7, .ref ((u 33))), (8, .ref ((u 32))), (10, .int v10)]) hx hb d_Turtles_draw_333 hl (k := 9) rfl (by rw [ex_1]; rfl) (by decide) rfl (fun ls hl => ?_)
  refine lv_goto (tgt := 173) hx hb d_Turtles_draw_336 (by decide) ?_
  exact Hrc_173 _ _ _ _ _ _ _ _ _ hm _ _ _ hP hD hS (lv_sub hl [1, 2, 3, 4, 5, 6, 7, 8, 9, 0] rfl)
def m_Turtles_draw_b331 (n : Nat) (g : Nat → Nat) (rc_173 : (Nat → Int32) → (Nat → Nat → Int32) → Int32 → Int32 → Int32 → Int32 → Int32 → Int32 → Int32 → Option ((Nat → Int32) × (Nat → Nat → Int32) × Int32)) (i : Nat → Int32) (a : Nat → Nat → Int32) (v1 : Int32) (v2 : Int32) (v3 : Int32) (v4 : Int32) (v5 : Int32) (v10 : Int32) (v11 : Int32) (s0 : Int32) : Option ((Nat → Int32) × (Nat → Nat → Int32) × Int32) := ck s0 4096 (ob1 (sv a 21 s0.toNatClampNeg v2 : Nat → Nat → Int32) (fun a_2 => m_Turtles_draw_b333 n g rc_173 i a_2 v1 v2 v3 v4 v5 v10 v11))
set_option maxHeartbeats 4000000 in
set_option maxRecDepth 100000 in
theorem lb_Turtles_draw_331 (l : Launch) (dC : Nat → ClassId) (dI : Nat → Nat → Nat) (cI : ClassId) (adK adV adA u o g : Nat → Nat) (n : Nat) {p : Program} {e : Env} {s : State} {m : MethodId} {args : Array Value} {below : List Frame} {meth : Method} {c : Code} {A : Nat → Prop} (hx : p.tables.exec = Jvm.exec) (hb : c.code = b_Turtles_draw) (hml : c.maxLocals = 15) (hown : s.vm.findClass R_Turtles = some m.cls) (hts : ∀ w ∈ w_Turtles_draw, w.before args s = true) (hK : va_K (dC, dI) classes [(cI, .int)] s) (hE : tw_E adK adV adA A s s.heap) (hA : ∀ q : Nat, s.heap.size ≤ q → A q) (hr : meth.sig.returnType = none) (hlocks : meth.locks = false) {i2 : Nat → Int32} {a2 : Nat → Nat → Int32} {r2 : Int32} (rc_173 : (Nat → Int32) → (Nat → Nat → Int32) → Int32 → Int32 → Int32 → Int32 → Int32 → Int32 → Int32 → Option ((Nat → Int32) × (Nat → Nat → Int32) × Int32)) (Hrc_173 : ∀ (i : Nat → Int32) (a : Nat → Nat → Int32) (v1 : Int32) (v2 : Int32) (v3 : Int32) (v4 : Int32) (v5 : Int32) (v10 : Int32) (v11 : Int32), rc_173 i a v1 v2 v3 v4 v5 v10 v11 = some (i2, a2, r2) → ∀ (H : Heap) (locs : List Loc) (ls : Array Slot), va_P (dC, dI) classes (TW cI u o i a g) H → va_D A (TW cI u o i a g) → va_S A s.heap H locs → lv_has ls 15 [(0, .ref ((u 5))), (1, .int v1), (2, .int v2), (3, .int v3), (4, .int v4), (5, .int v5), (7, .ref ((u 33))), (8, .ref ((u 32))), (10, .int v10), (11, .int v11)] → W p l e ({ frames := 2, cells := 0, slots := 0, locals := 55 } : Room) s m args below meth c H locs 0 0 (MQ below (va_Qv xV (xB dC dI cI u o g i2 a2 A) A) args s 0 0 A) (F0 m 173 ls [])) (i : Nat → Int32) (a : Nat → Nat → Int32) (v1 : Int32) (v2 : Int32) (v3 : Int32) (v4 : Int32) (v5 : Int32) (v10 : Int32) (v11 : Int32) (s0 : Int32) (hm : m_Turtles_draw_b331 n g rc_173 i a v1 v2 v3 v4 v5 v10 v11 s0 = some (i2, a2, r2)) : ∀ (H : Heap) (locs : List Loc) (ls : Array Slot), va_P (dC, dI) classes (TW cI u o i a g) H → va_D A (TW cI u o i a g) → va_S A s.heap H locs → lv_has ls 15 [(0, .ref ((u 5))), (1, .int v1), (2, .int v2), (3, .int v3), (4, .int v4), (5, .int v5), (7, .ref ((u 33))), (8, .ref ((u 32))), (10, .int v10), (11, .int v11)] → W p l e ({ frames := 2, cells := 0, slots := 0, locals := 55 } : Room) s m args below meth c H locs 0 0 (MQ below (va_Qv xV (xB dC dI cI u o g i2 a2 A) A) args s 0 0 A) (F0 m 331 ls [.int s0, .ref ((u 31))]) := by
  have htt : ∀ w ∈ tw_T, w.before _ s = true := fun w h => hts w (List.mem_cons_of_mem _ h)
  intro H locs ls hP hD hS hl
  rw [m_Turtles_draw_b331] at hm
  refine lv_iload_n hx hb d_Turtles_draw_331 rfl (lv_at hl 2 rfl) ?_
  obtain ⟨h_1, hm⟩ := ck_some hm
  refine va_iast hx hb hK hP hD hS 33 0 twA_21 rfl h_1 d_Turtles_draw_332 (fun H locs hP hD hS => ?_)
  obtain ⟨a_2, ea_2⟩ : ∃ y9 : Nat → Nat → Int32, y9 = sv a 21 s0.toNatClampNeg v2 := ⟨_, rfl⟩
  replace hm := ob1_at ea_2 hm
  obtain ⟨hP, hD⟩ := xv_21 ea_2 hP hD
  exact lb_Turtles_draw_333 l dC dI cI adK adV adA u o g n hx hb hml hown hts hK hE hA hr hlocks rc_173 Hrc_173 _ _ _ _ _ _ _ _ _ hm _ _ _ hP hD hS (lv_sub hl [0, 1, 2, 3, 4, 5, 6, 7, 8, 9] rfl)
def m_Turtles_draw_b283 (n : Nat) (g : Nat → Nat) (rc_173 : (Nat → Int32) → (Nat → Nat → Int32) → Int32 → Int32 → Int32 → Int32 → Int32 → Int32 → Int32 → Option ((Nat → Int32) × (Nat → Nat → Int32) × Int32)) (i : Nat → Int32) (a : Nat → Nat → Int32) (v1 : Int32) (v2 : Int32) (v3 : Int32) (v4 : Int32) (v5 : Int32) (v10 : Int32) (v11 : Int32) (v12 : Int64) : Option ((Nat → Int32) × (Nat → Nat → Int32) × Int32) := if ((lg_cmp v12 ((-32)))) < ((0 : Int32)) then m_Turtles_draw_b333 n g rc_173 i a v1 v2 v3 v4 v5 v10 v11 else if ((0 : Int32)) ≤ ((lg_cmp v12 32)) then m_Turtles_draw_b333 n g rc_173 i a v1 v2 v3 v4 v5 v10 v11 else if v3 = ((0 : Int32)) then ob0 (m_Turtles_dotAt n v12.toInt32 v11) (fun r_5 => m_Turtles_draw_b331 n g rc_173 i a v1 v2 v3 v4 v5 v10 v11 r_5) else ob0 (m_Turtles_dotAt n v11 v12.toInt32) (fun r_7 => m_Turtles_draw_b331 n g rc_173 i a v1 v2 v3 v4 v5 v10 v11 r_7)
set_option maxHeartbeats 4000000 in
set_option maxRecDepth 100000 in
theorem lb_Turtles_draw_283 (l : Launch) (dC : Nat → ClassId) (dI : Nat → Nat → Nat) (cI : ClassId) (adK adV adA u o g : Nat → Nat) (n : Nat) {p : Program} {e : Env} {s : State} {m : MethodId} {args : Array Value} {below : List Frame} {meth : Method} {c : Code} {A : Nat → Prop} (hx : p.tables.exec = Jvm.exec) (hb : c.code = b_Turtles_draw) (hml : c.maxLocals = 15) (hown : s.vm.findClass R_Turtles = some m.cls) (hts : ∀ w ∈ w_Turtles_draw, w.before args s = true) (hK : va_K (dC, dI) classes [(cI, .int)] s) (hE : tw_E adK adV adA A s s.heap) (hA : ∀ q : Nat, s.heap.size ≤ q → A q) (hr : meth.sig.returnType = none) (hlocks : meth.locks = false) {i2 : Nat → Int32} {a2 : Nat → Nat → Int32} {r2 : Int32} (rc_173 : (Nat → Int32) → (Nat → Nat → Int32) → Int32 → Int32 → Int32 → Int32 → Int32 → Int32 → Int32 → Option ((Nat → Int32) × (Nat → Nat → Int32) × Int32)) (Hrc_173 : ∀ (i : Nat → Int32) (a : Nat → Nat → Int32) (v1 : Int32) (v2 : Int32) (v3 : Int32) (v4 : Int32) (v5 : Int32) (v10 : Int32) (v11 : Int32), rc_173 i a v1 v2 v3 v4 v5 v10 v11 = some (i2, a2, r2) → ∀ (H : Heap) (locs : List Loc) (ls : Array Slot), va_P (dC, dI) classes (TW cI u o i a g) H → va_D A (TW cI u o i a g) → va_S A s.heap H locs → lv_has ls 15 [(0, .ref ((u 5))), (1, .int v1), (2, .int v2), (3, .int v3), (4, .int v4), (5, .int v5), (7, .ref ((u 33))), (8, .ref ((u 32))), (10, .int v10), (11, .int v11)] → W p l e ({ frames := 2, cells := 0, slots := 0, locals := 55 } : Room) s m args below meth c H locs 0 0 (MQ below (va_Qv xV (xB dC dI cI u o g i2 a2 A) A) args s 0 0 A) (F0 m 173 ls [])) (i : Nat → Int32) (a : Nat → Nat → Int32) (v1 : Int32) (v2 : Int32) (v3 : Int32) (v4 : Int32) (v5 : Int32) (v10 : Int32) (v11 : Int32) (v12 : Int64) (hm : m_Turtles_draw_b283 n g rc_173 i a v1 v2 v3 v4 v5 v10 v11 v12 = some (i2, a2, r2)) : ∀ (H : Heap) (locs : List Loc) (ls : Array Slot), va_P (dC, dI) classes (TW cI u o i a g) H → va_D A (TW cI u o i a g) → va_S A s.heap H locs → lv_has ls 15 [(0, .ref ((u 5))), (1, .int v1), (2, .int v2), (3, .int v3), (4, .int v4), (5, .int v5), (7, .ref ((u 33))), (8, .ref ((u 32))), (10, .int v10), (11, .int v11), (12, .long v12)] → W p l e ({ frames := 2, cells := 0, slots := 0, locals := 55 } : Room) s m args below meth c H locs 0 0 (MQ below (va_Qv xV (xB dC dI cI u o g i2 a2 A) A) args s 0 0 A) (F0 m 283 ls []) := by
  have htt : ∀ w ∈ tw_T, w.before _ s = true := fun w h => hts w (List.mem_cons_of_mem _ h)
  intro H locs ls hP hD hS hl
  rw [m_Turtles_draw_b283] at hm
  refine lv_lload hx hb d_Turtles_draw_283 (lv_at hl 10 rfl) ?_
  refine lv_ldc2 (v := (-32)) hx hb hown (htt _ lk_Turtles_87) d_Turtles_draw_285 ?_
  refine W.lcmp hx hb d_Turtles_draw_288 ?_
  refine lv_if_lt (tgt := 333) hx hb d_Turtles_draw_289 (by decide) (fun c_1 => ?_) (fun c_1 => ?_)
  · replace hm := if_t c_1 hm
    exact lb_Turtles_draw_333 l dC dI cI adK adV adA u o g n hx hb hml hown hts hK hE hA hr hlocks rc_173 Hrc_173 _ _ _ _ _ _ _ _ _ hm _ _ _ hP hD hS (lv_sub hl [0, 1, 2, 3, 4, 5, 6, 7, 8, 9] rfl)
  · replace hm := if_f c_1 hm
    refine lv_lload hx hb d_Turtles_draw_292 (lv_at hl 10 rfl) ?_
    refine lv_ldc2 (v := 32) hx hb hown (htt _ lk_Turtles_108) d_Turtles_draw_294 ?_
    refine W.lcmp hx hb d_Turtles_draw_297 ?_
    refine lv_if_ge (tgt := 333) hx hb d_Turtles_draw_298 (by decide) (fun c_2 => ?_) (fun c_2 => ?_)
    · replace hm := if_t c_2 hm
      exact lb_Turtles_draw_333 l dC dI cI adK adV adA u o g n hx hb hml hown hts hK hE hA hr hlocks rc_173 Hrc_173 _ _ _ _ _ _ _ _ _ hm _ _ _ hP hD hS (lv_sub hl [0, 1, 2, 3, 4, 5, 6, 7, 8, 9] rfl)
    · replace hm := if_f c_2 hm
      refine lv_lload hx hb d_Turtles_draw_301 (lv_at hl 10 rfl) ?_
      refine lv_l2i hx hb d_Turtles_draw_303 rfl ?_
      refine lv_istore (lv' := [(14, .int v12.toInt32), (0, .ref ((u 5))), (1, .int v1), (2, .int v2), (3, .int v3), (4, .int v4), (5, .int v5), (7, .ref ((u 33))), (8, .ref ((u 32))), (10, .int v10), (11, .int v11), (12, .long v12)]) hx hb d_Turtles_draw_304 hl (by decide) rfl (fun ls hl => ?_)
      refine lv_aload_n hx hb d_Turtles_draw_306 rfl (lv_at hl 1 rfl) ?_
      refine va_get (D := (dC, dI)) (ci := 5) (v := .ref ((u 31))) (C := R_Turtles) (T := F_Turtles) (N := 8) hx hb htt iw_Turtles hown hK hP 5 xo_5 rfl 1 (Nat.le_of_ble_eq_true rfl) (htt _ lk_Turtles_15) (fun _ h9 => h9) xg_5_1 d_Turtles_draw_307 ?_
      refine lv_iload_n hx hb d_Turtles_draw_310 rfl (lv_at hl 4 rfl) ?_
      refine lv_if_eq (tgt := 324) hx hb d_Turtles_draw_311 (by decide) (fun c_3 => ?_) (fun c_3 => ?_)
      · replace hm := if_t c_3 hm
        refine lv_iload hx hb d_Turtles_draw_324 (lv_at hl 0 rfl) ?_
        refine lv_iload hx hb d_Turtles_draw_326 (lv_at hl 10 rfl) ?_
        obtain ⟨r_5, h_4, hm⟩ := ob0_some hm
        have hFc := x_free0 hS hA
        refine va_calli (va_runS (As := [.int v12.toInt32, .int v11]) (rest := [.ref ((u 31))]) ⟨hx, hb, hml, hown, hts⟩ (x_Turtles_dotAt l H.size n h_4) (va_cwS 2 hts (tw_GS tw_cons cw_Turtles_dotAt lk_Turtles_110 st_Turtles_dotAt ini_Turtles) rfl rfl rfl hd_Turtles_dotAt ⟨Nat.le_of_ble_eq_true rfl, Nat.le_of_ble_eq_true rfl⟩) xpS0 rfl rfl hl.1 rfl (lv_room (Nat.le_of_ble_eq_true rfl)) d_Turtles_draw_328 ⟨Nat.le_of_ble_eq_true rfl, Nat.le_of_ble_eq_true rfl⟩) hS (fun q _ h => hFc q h) hFc (fun r9 u9 t9 H locs ht hvm e9 hB hz1 hk1 hS => ?_)
        have e9 : r_5 = r9 := e9
        subst e9
        replace hP := x_keep hP hk1
        clear hFc hk1 hz1 hvm hB ht
        exact lb_Turtles_draw_331 l dC dI cI adK adV adA u o g n hx hb hml hown hts hK hE hA hr hlocks rc_173 Hrc_173 _ _ _ _ _ _ _ _ _ _ hm _ _ _ hP hD hS (lv_sub hl [1, 2, 3, 4, 5, 6, 7, 8, 9, 10] rfl)
      · replace hm := if_f c_3 hm
        refine lv_iload hx hb d_Turtles_draw_314 (lv_at hl 10 rfl) ?_
        refine lv_iload hx hb d_Turtles_draw_316 (lv_at hl 0 rfl) ?_
        obtain ⟨r_7, h_6, hm⟩ := ob0_some hm
        have hFc := x_free0 hS hA
        refine va_calli (va_runS (As := [.int v11, .int v12.toInt32]) (rest := [.ref ((u 31))]) ⟨hx, hb, hml, hown, hts⟩ (x_Turtles_dotAt l H.size n h_6) (va_cwS 2 hts (tw_GS tw_cons cw_Turtles_dotAt lk_Turtles_110 st_Turtles_dotAt ini_Turtles) rfl rfl rfl hd_Turtles_dotAt ⟨Nat.le_of_ble_eq_true rfl, Nat.le_of_ble_eq_true rfl⟩) xpS0 rfl rfl hl.1 rfl (lv_room (Nat.le_of_ble_eq_true rfl)) d_Turtles_draw_318 ⟨Nat.le_of_ble_eq_true rfl, Nat.le_of_ble_eq_true rfl⟩) hS (fun q _ h => hFc q h) hFc (fun r9 u9 t9 H locs ht hvm e9 hB hz1 hk1 hS => ?_)
        have e9 : r_7 = r9 := e9
        subst e9
        replace hP := x_keep hP hk1
        clear hFc hk1 hz1 hvm hB ht
        refine lv_goto (tgt := 331) hx hb d_Turtles_draw_321 (by decide) ?_
        exact lb_Turtles_draw_331 l dC dI cI adK adV adA u o g n hx hb hml hown hts hK hE hA hr hlocks rc_173 Hrc_173 _ _ _ _ _ _ _ _ _ _ hm _ _ _ hP hD hS (lv_sub hl [1, 2, 3, 4, 5, 6, 7, 8, 9, 10] rfl)
def m_Turtles_draw_b173 (n : Nat) (g : Nat → Nat) : Nat → (Nat → Int32) → (Nat → Nat → Int32) → Int32 → Int32 → Int32 → Int32 → Int32 → Int32 → Int32 → Option ((Nat → Int32) × (Nat → Nat → Int32) × Int32)
  | 0, _, _, _, _, _, _, _, _, _ => none
  | f + 1, i, a, v1, v2, v3, v4, v5, v10, v11 => if v10 < v11 then some (i, a, (0 : Int32)) else ck v4 4 (ck ((v4 + 1)) 4 (ob0 (m_Turtles_sideOf n (a 23 v4.toNatClampNeg) (a 23 (v4 + 1).toNatClampNeg) v11) (fun r_5 => if r_5 ≤ ((0 : Int32)) then ck v4 4 (ck ((v4 + 1)) 4 (ob0 (m_Turtles_sideOf n (a 22 v4.toNatClampNeg) (a 22 (v4 + 1).toNatClampNeg) v11) (fun r_10 => if ((0 : Int32)) ≤ r_10 then ck v1 6 (ob0 (m_Turtles_crossing n g i a v4 (tw_st 2 v1.toNatClampNeg) v11) (fun r_14 => m_Turtles_draw_b283 n g (m_Turtles_draw_b173 n g f) i a v1 v2 v3 v4 v5 v10 v11 r_14)) else ck v5 4 (ck ((v5 + 1)) 4 (ob0 (m_Turtles_floorHalf n (((a 22 v5.toNatClampNeg) + 1).toInt64) ((a 22 (v5 + 1).toNatClampNeg).toInt64)) (fun r_18 => m_Turtles_draw_b283 n g (m_Turtles_draw_b173 n g f) i a v1 v2 v3 v4 v5 v10 v11 r_18)))))) else ck v5 4 (ck ((v5 + 1)) 4 (ob0 (m_Turtles_floorHalf n (((a 23 v5.toNatClampNeg) + 1).toInt64) ((a 23 (v5 + 1).toNatClampNeg).toInt64)) (fun r_22 => m_Turtles_draw_b283 n g (m_Turtles_draw_b173 n g f) i a v1 v2 v3 v4 v5 v10 v11 r_22))))))
set_option maxHeartbeats 4000000 in
set_option maxRecDepth 100000 in
theorem lb_Turtles_draw_173 (l : Launch) (dC : Nat → ClassId) (dI : Nat → Nat → Nat) (cI : ClassId) (adK adV adA u o g : Nat → Nat) (n : Nat) {p : Program} {e : Env} {s : State} {m : MethodId} {args : Array Value} {below : List Frame} {meth : Method} {c : Code} {A : Nat → Prop} (hx : p.tables.exec = Jvm.exec) (hb : c.code = b_Turtles_draw) (hml : c.maxLocals = 15) (hown : s.vm.findClass R_Turtles = some m.cls) (hts : ∀ w ∈ w_Turtles_draw, w.before args s = true) (hK : va_K (dC, dI) classes [(cI, .int)] s) (hE : tw_E adK adV adA A s s.heap) (hA : ∀ q : Nat, s.heap.size ≤ q → A q) (hr : meth.sig.returnType = none) (hlocks : meth.locks = false) {i2 : Nat → Int32} {a2 : Nat → Nat → Int32} {r2 : Int32} : ∀ (f : Nat) (i : Nat → Int32) (a : Nat → Nat → Int32) (v1 : Int32) (v2 : Int32) (v3 : Int32) (v4 : Int32) (v5 : Int32) (v10 : Int32) (v11 : Int32), m_Turtles_draw_b173 n g f i a v1 v2 v3 v4 v5 v10 v11 = some (i2, a2, r2) → ∀ (H : Heap) (locs : List Loc) (ls : Array Slot), va_P (dC, dI) classes (TW cI u o i a g) H → va_D A (TW cI u o i a g) → va_S A s.heap H locs → lv_has ls 15 [(0, .ref ((u 5))), (1, .int v1), (2, .int v2), (3, .int v3), (4, .int v4), (5, .int v5), (7, .ref ((u 33))), (8, .ref ((u 32))), (10, .int v10), (11, .int v11)] → W p l e ({ frames := 2, cells := 0, slots := 0, locals := 55 } : Room) s m args below meth c H locs 0 0 (MQ below (va_Qv xV (xB dC dI cI u o g i2 a2 A) A) args s 0 0 A) (F0 m 173 ls []) := by
  have htt : ∀ w ∈ tw_T, w.before _ s = true := fun w h => hts w (List.mem_cons_of_mem _ h)
  intro f
  induction f with
  | zero =>
    intro i a v1 v2 v3 v4 v5 v10 v11 hm
    rw [m_Turtles_draw_b173] at hm
    cases hm
  | succ f ih =>
    intro i a v1 v2 v3 v4 v5 v10 v11 hm H locs ls hP hD hS hl
    rw [m_Turtles_draw_b173] at hm
    refine lv_iload hx hb d_Turtles_draw_173 (lv_at hl 9 rfl) ?_
    refine lv_iload hx hb d_Turtles_draw_175 (lv_at hl 8 rfl) ?_
    refine lv_icmp_gt (tgt := 339) hx hb d_Turtles_draw_177 (by decide) (fun c_1 => ?_) (fun c_1 => ?_)
    · replace hm := if_t c_1 hm
      obtain ⟨e1i, e1a, e3⟩ := re3 hm
      obtain ⟨hP, hD⟩ := x_eq e1i e1a hP hD
      exact W.vret hx hb hr (fun t9 ht hW => ⟨⟨(), rfl, trivial, by rw [ht]; exact hP, hD⟩, hS.F ht⟩) hS.2.2 d_Turtles_draw_339
    · replace hm := if_f c_1 hm
      refine lv_aload hx hb d_Turtles_draw_180 (lv_at hl 6 rfl) ?_
      refine lv_iload hx hb d_Turtles_draw_182 (lv_at hl 4 rfl) ?_
      obtain ⟨h_2, hm⟩ := ck_some hm
      refine va_iald hx hb hK hP 35 0 twA_23 rfl h_2 d_Turtles_draw_184 ?_
      refine lv_aload hx hb d_Turtles_draw_185 (lv_at hl 6 rfl) ?_
      refine lv_iload hx hb d_Turtles_draw_187 (lv_at hl 4 rfl) ?_
      refine lv_iconst (v := 1) hx hb d_Turtles_draw_189 (by decide) ?_
      refine lv_iadd hx hb d_Turtles_draw_190 ?_
      obtain ⟨h_3, hm⟩ := ck_some hm
      refine va_iald hx hb hK hP 35 0 twA_23 rfl h_3 d_Turtles_draw_191 ?_
      refine lv_iload hx hb d_Turtles_draw_192 (lv_at hl 9 rfl) ?_
      obtain ⟨r_5, h_4, hm⟩ := ob0_some hm
      have hFc := x_free0 hS hA
      refine va_calli (va_runS (As := [.int (a 23 v4.toNatClampNeg), .int (a 23 (v4 + 1).toNatClampNeg), .int v11]) (rest := []) ⟨hx, hb, hml, hown, hts⟩ (x_Turtles_sideOf l H.size n h_4) (va_cwS 3 hts (tw_GS tw_cons cw_Turtles_sideOf lk_Turtles_97 st_Turtles_sideOf ini_Turtles) rfl rfl rfl hd_Turtles_sideOf ⟨Nat.le_of_ble_eq_true rfl, Nat.le_of_ble_eq_true rfl⟩) xpS0 rfl rfl hl.1 rfl (lv_room (Nat.le_of_ble_eq_true rfl)) d_Turtles_draw_194 ⟨Nat.le_of_ble_eq_true rfl, Nat.le_of_ble_eq_true rfl⟩) hS (fun q _ h => hFc q h) hFc (fun r9 u9 t9 H locs ht hvm e9 hB hz1 hk1 hS => ?_)
      have e9 : r_5 = r9 := e9
      subst e9
      replace hP := x_keep hP hk1
      clear hFc hk1 hz1 hvm hB ht
      refine lv_if_le (tgt := 224) hx hb d_Turtles_draw_197 (by decide) (fun c_6 => ?_) (fun c_6 => ?_)
      · replace hm := if_t c_6 hm
        refine lv_aload hx hb d_Turtles_draw_224 (lv_at hl 7 rfl) ?_
        refine lv_iload hx hb d_Turtles_draw_226 (lv_at hl 4 rfl) ?_
        obtain ⟨h_7, hm⟩ := ck_some hm
        refine va_iald hx hb hK hP 34 0 twA_22 rfl h_7 d_Turtles_draw_228 ?_
        refine lv_aload hx hb d_Turtles_draw_229 (lv_at hl 7 rfl) ?_
        refine lv_iload hx hb d_Turtles_draw_231 (lv_at hl 4 rfl) ?_
        refine lv_iconst (v := 1) hx hb d_Turtles_draw_233 (by decide) ?_
        refine lv_iadd hx hb d_Turtles_draw_234 ?_
        obtain ⟨h_8, hm⟩ := ck_some hm
        refine va_iald hx hb hK hP 34 0 twA_22 rfl h_8 d_Turtles_draw_235 ?_
        refine lv_iload hx hb d_Turtles_draw_236 (lv_at hl 9 rfl) ?_
        obtain ⟨r_10, h_9, hm⟩ := ob0_some hm
        have hFc := x_free0 hS hA
        refine va_calli (va_runS (As := [.int (a 22 v4.toNatClampNeg), .int (a 22 (v4 + 1).toNatClampNeg), .int v11]) (rest := []) ⟨hx, hb, hml, hown, hts⟩ (x_Turtles_sideOf l H.size n h_9) (va_cwS 3 hts (tw_GS tw_cons cw_Turtles_sideOf lk_Turtles_97 st_Turtles_sideOf ini_Turtles) rfl rfl rfl hd_Turtles_sideOf ⟨Nat.le_of_ble_eq_true rfl, Nat.le_of_ble_eq_true rfl⟩) xpS0 rfl rfl hl.1 rfl (lv_room (Nat.le_of_ble_eq_true rfl)) d_Turtles_draw_238 ⟨Nat.le_of_ble_eq_true rfl, Nat.le_of_ble_eq_true rfl⟩) hS (fun q _ h => hFc q h) hFc (fun r9 u9 t9 H locs ht hvm e9 hB hz1 hk1 hS => ?_)
        have e9 : r_10 = r9 := e9
        subst e9
        replace hP := x_keep hP hk1
        clear hFc hk1 hz1 hvm hB ht
        refine lv_if_ge (tgt := 268) hx hb d_Turtles_draw_241 (by decide) (fun c_11 => ?_) (fun c_11 => ?_)
        · replace hm := if_t c_11 hm
          refine lv_aload_n hx hb d_Turtles_draw_268 rfl (lv_at hl 0 rfl) ?_
          refine lv_iload hx hb d_Turtles_draw_269 (lv_at hl 4 rfl) ?_
          refine va_gets hx hb (hE.2 2 (by decide)).1 hS hown (htt _ lk_Turtles_101) (fun _ h9 => h9) d_Turtles_draw_271 ?_
          refine lv_iload_n hx hb d_Turtles_draw_274 rfl (lv_at hl 1 rfl) ?_
          obtain ⟨h_12, hm⟩ := ck_some hm
          refine va_ti (N := 6) (v := .int (tw_st 2 v1.toNatClampNeg)) hx hb (hE.2 2 (by decide)).2 hS h_12 rfl d_Turtles_draw_275 ?_
          refine lv_iload hx hb d_Turtles_draw_276 (lv_at hl 9 rfl) ?_
          obtain ⟨r_14, h_13, hm⟩ := ob0_some hm
          have hFc := x_free0 hS hA
          refine va_calll (va_runV (As := [.int v4, .int (tw_st 2 v1.toNatClampNeg), .int v11]) (rest := []) ⟨hx, hb, hml, hown, hts⟩ (x_Turtles_crossing l dC dI cI adK adV adA u o g H.size n h_13) (cwV 3 hts (tw_GV tw_cons cw_Turtles_crossing lk_Turtles_104 in_Turtles_crossing sel_Turtles_crossing ini_Turtles) rfl rfl rfl ⟨rfl, hd_Turtles_crossing⟩ ⟨Nat.le_of_ble_eq_true rfl, Nat.le_of_ble_eq_true rfl⟩) (xpVr hK hP hS hE hFc xo_5 rfl) rfl rfl hl.1 rfl (lv_room (Nat.le_of_ble_eq_true rfl)) d_Turtles_draw_278 ⟨Nat.le_of_ble_eq_true rfl, Nat.le_of_ble_eq_true rfl⟩) hS (fun q _ h => hFc q h) hFc (fun r9 u9 t9 H locs ht hvm e9 hB hz1 hk1 hS => ?_)
          have e9 : r_14 = r9 := e9
          subst e9
          replace hP := x_keep hP hk1
          clear hFc hk1 hz1 hvm hB ht
          refine lv_lstore (lv' := [(12, .long r_14), (0, .ref ((u 5))), (1, .int v1), (2, .int v2), (3, .int v3), (4, .int v4), (5, .int v5), (7, .ref ((u 33))), (8, .ref ((u 32))), (10, .int v10), (11, .int v11)]) hx hb d_Turtles_draw_281 hl (by decide) rfl (fun ls hl => ?_)
          exact lb_Turtles_draw_283 l dC dI cI adK adV adA u o g n hx hb hml hown hts hK hE hA hr hlocks (m_Turtles_draw_b173 n g f) ih _ _ _ _ _ _ _ _ _ _ hm _ _ _ hP hD hS (lv_sub hl [1, 2, 3, 4, 5, 6, 7, 8, 9, 10, 0] rfl)
        · replace hm := if_f c_11 hm
          refine lv_aload hx hb d_Turtles_draw_244 (lv_at hl 7 rfl) ?_
          refine lv_iload hx hb d_Turtles_draw_246 (lv_at hl 5 rfl) ?_
          obtain ⟨h_15, hm⟩ := ck_some hm
          refine va_iald hx hb hK hP 34 0 twA_22 rfl h_15 d_Turtles_draw_248 ?_
          refine lv_iconst (v := 1) hx hb d_Turtles_draw_249 (by decide) ?_
          refine lv_iadd hx hb d_Turtles_draw_250 ?_
          refine lv_i2l hx hb d_Turtles_draw_251 rfl ?_
          refine lv_aload hx hb d_Turtles_draw_252 (lv_at hl 7 rfl) ?_
          refine lv_iload hx hb d_Turtles_draw_254 (lv_at hl 5 rfl) ?_
          refine lv_iconst (v := 1) hx hb d_Turtles_draw_256 (by decide) ?_
          refine lv_iadd hx hb d_Turtles_draw_257 ?_
          obtain ⟨h_16, hm⟩ := ck_some hm
          refine va_iald hx hb hK hP 34 0 twA_22 rfl h_16 d_Turtles_draw_258 ?_
          refine lv_i2l hx hb d_Turtles_draw_259 rfl ?_
          obtain ⟨r_18, h_17, hm⟩ := ob0_some hm
          have hFc := x_free0 hS hA
          refine va_calll (va_runS (As := [.long (((a 22 v5.toNatClampNeg) + 1).toInt64), .long ((a 22 (v5 + 1).toNatClampNeg).toInt64)]) (rest := []) ⟨hx, hb, hml, hown, hts⟩ (x_Turtles_floorHalf l H.size n h_17) (va_cwS 2 hts (tw_GS tw_cons cw_Turtles_floorHalf lk_Turtles_84 st_Turtles_floorHalf ini_Turtles) rfl rfl rfl hd_Turtles_floorHalf ⟨Nat.le_of_ble_eq_true rfl, Nat.le_of_ble_eq_true rfl⟩) xpS0 rfl rfl hl.1 rfl (lv_room (Nat.le_of_ble_eq_true rfl)) d_Turtles_draw_260 ⟨Nat.le_of_ble_eq_true rfl, Nat.le_of_ble_eq_true rfl⟩) hS (fun q _ h => hFc q h) hFc (fun r9 u9 t9 H locs ht hvm e9 hB hz1 hk1 hS => ?_)
          have e9 : r_18 = r9 := e9
          subst e9
          replace hP := x_keep hP hk1
          clear hFc hk1 hz1 hvm hB ht
          refine lv_lstore (lv' := [(12, .long r_18), (0, .ref ((u 5))), (1, .int v1), (2, .int v2), (3, .int v3), (4, .int v4), (5, .int v5), (7, .ref ((u 33))), (8, .ref ((u 32))), (10, .int v10), (11, .int v11)]) hx hb d_Turtles_draw_263 hl (by decide) rfl (fun ls hl => ?_)
          refine lv_goto (tgt := 283) hx hb d_Turtles_draw_265 (by decide) ?_
          exact lb_Turtles_draw_283 l dC dI cI adK adV adA u o g n hx hb hml hown hts hK hE hA hr hlocks (m_Turtles_draw_b173 n g f) ih _ _ _ _ _ _ _ _ _ _ hm _ _ _ hP hD hS (lv_sub hl [1, 2, 3, 4, 5, 6, 7, 8, 9, 10, 0] rfl)
      · replace hm := if_f c_6 hm
        refine lv_aload hx hb d_Turtles_draw_200 (lv_at hl 6 rfl) ?_
        refine lv_iload hx hb d_Turtles_draw_202 (lv_at hl 5 rfl) ?_
        obtain ⟨h_19, hm⟩ := ck_some hm
        refine va_iald hx hb hK hP 35 0 twA_23 rfl h_19 d_Turtles_draw_204 ?_
        refine lv_iconst (v := 1) hx hb d_Turtles_draw_205 (by decide) ?_
        refine lv_iadd hx hb d_Turtles_draw_206 ?_
        refine lv_i2l hx hb d_Turtles_draw_207 rfl ?_
        refine lv_aload hx hb d_Turtles_draw_208 (lv_at hl 6 rfl) ?_
        refine lv_iload hx hb d_Turtles_draw_210 (lv_at hl 5 rfl) ?_
        refine lv_iconst (v := 1) hx hb d_Turtles_draw_212 (by decide) ?_
        refine lv_iadd hx hb d_Turtles_draw_213 ?_
        obtain ⟨h_20, hm⟩ := ck_some hm
        refine va_iald hx hb hK hP 35 0 twA_23 rfl h_20 d_Turtles_draw_214 ?_
        refine lv_i2l hx hb d_Turtles_draw_215 rfl ?_
        obtain ⟨r_22, h_21, hm⟩ := ob0_some hm
        have hFc := x_free0 hS hA
        refine va_calll (va_runS (As := [.long (((a 23 v5.toNatClampNeg) + 1).toInt64), .long ((a 23 (v5 + 1).toNatClampNeg).toInt64)]) (rest := []) ⟨hx, hb, hml, hown, hts⟩ (x_Turtles_floorHalf l H.size n h_21) (va_cwS 2 hts (tw_GS tw_cons cw_Turtles_floorHalf lk_Turtles_84 st_Turtles_floorHalf ini_Turtles) rfl rfl rfl hd_Turtles_floorHalf ⟨Nat.le_of_ble_eq_true rfl, Nat.le_of_ble_eq_true rfl⟩) xpS0 rfl rfl hl.1 rfl (lv_room (Nat.le_of_ble_eq_true rfl)) d_Turtles_draw_216 ⟨Nat.le_of_ble_eq_true rfl, Nat.le_of_ble_eq_true rfl⟩) hS (fun q _ h => hFc q h) hFc (fun r9 u9 t9 H locs ht hvm e9 hB hz1 hk1 hS => ?_)
        have e9 : r_22 = r9 := e9
        subst e9
        replace hP := x_keep hP hk1
        clear hFc hk1 hz1 hvm hB ht
        refine lv_lstore (lv' := [(12, .long r_22), (0, .ref ((u 5))), (1, .int v1), (2, .int v2), (3, .int v3), (4, .int v4), (5, .int v5), (7, .ref ((u 33))), (8, .ref ((u 32))), (10, .int v10), (11, .int v11)]) hx hb d_Turtles_draw_219 hl (by decide) rfl (fun ls hl => ?_)
        refine lv_goto (tgt := 283) hx hb d_Turtles_draw_221 (by decide) ?_
        exact lb_Turtles_draw_283 l dC dI cI adK adV adA u o g n hx hb hml hown hts hK hE hA hr hlocks (m_Turtles_draw_b173 n g f) ih _ _ _ _ _ _ _ _ _ _ hm _ _ _ hP hD hS (lv_sub hl [1, 2, 3, 4, 5, 6, 7, 8, 9, 10, 0] rfl)
def m_Turtles_draw_b111 (n : Nat) (g : Nat → Nat) (i : Nat → Int32) (a : Nat → Nat → Int32) (v1 : Int32) (v2 : Int32) (v3 : Int32) (v4 : Int32) (v5 : Int32) : Option ((Nat → Int32) × (Nat → Nat → Int32) × Int32) := ck v4 4 (ck ((v4 + 1)) 4 (ob0 (m_Turtles_floorHalf n (((a 23 v4.toNatClampNeg) + 1).toInt64) ((a 23 (v4 + 1).toNatClampNeg).toInt64)) (fun r_4 => ob0 (m_Math_max2 n r_4 (-32 : Int64)) (fun r_6 => ck v4 4 (ck ((v4 + 1)) 4 (ob0 (m_Turtles_floorHalf n (((a 22 v4.toNatClampNeg) + 1).toInt64) ((a 22 (v4 + 1).toNatClampNeg).toInt64)) (fun r_10 => ob0 (m_Math_min2 n r_10 (31 : Int64)) (fun r_12 => m_Turtles_draw_b173 n g n i a v1 v2 v3 v4 v5 r_12.toInt32 r_6.toInt32))))))))
set_option maxHeartbeats 4000000 in
set_option maxRecDepth 100000 in
theorem lb_Turtles_draw_111 (l : Launch) (dC : Nat → ClassId) (dI : Nat → Nat → Nat) (cI : ClassId) (adK adV adA u o g : Nat → Nat) (n : Nat) {p : Program} {e : Env} {s : State} {m : MethodId} {args : Array Value} {below : List Frame} {meth : Method} {c : Code} {A : Nat → Prop} (hx : p.tables.exec = Jvm.exec) (hb : c.code = b_Turtles_draw) (hml : c.maxLocals = 15) (hown : s.vm.findClass R_Turtles = some m.cls) (hts : ∀ w ∈ w_Turtles_draw, w.before args s = true) (hK : va_K (dC, dI) classes [(cI, .int)] s) (hE : tw_E adK adV adA A s s.heap) (hA : ∀ q : Nat, s.heap.size ≤ q → A q) (hr : meth.sig.returnType = none) (hlocks : meth.locks = false) {i2 : Nat → Int32} {a2 : Nat → Nat → Int32} {r2 : Int32} (i : Nat → Int32) (a : Nat → Nat → Int32) (v1 : Int32) (v2 : Int32) (v3 : Int32) (v4 : Int32) (v5 : Int32) (hm : m_Turtles_draw_b111 n g i a v1 v2 v3 v4 v5 = some (i2, a2, r2)) : ∀ (H : Heap) (locs : List Loc) (ls : Array Slot), va_P (dC, dI) classes (TW cI u o i a g) H → va_D A (TW cI u o i a g) → va_S A s.heap H locs → lv_has ls 15 [(0, .ref ((u 5))), (1, .int v1), (2, .int v2), (3, .int v3), (4, .int v4), (5, .int v5), (7, .ref ((u 33)))] → W p l e ({ frames := 2, cells := 0, slots := 0, locals := 55 } : Room) s m args below meth c H locs 0 0 (MQ below (va_Qv xV (xB dC dI cI u o g i2 a2 A) A) args s 0 0 A) (F0 m 111 ls [.ref ((u 32))]) := by
  have htt : ∀ w ∈ tw_T, w.before _ s = true := fun w h => hts w (List.mem_cons_of_mem _ h)
  intro H locs ls hP hD hS hl
  rw [m_Turtles_draw_b111] at hm
  refine lv_astore (lv' := [(8, .ref ((u 32))), (0, .ref ((u 5))), (1, .int v1), (2, .int v2), (3, .int v3), (4, .int v4), (5, .int v5), (7, .ref ((u 33)))]) hx hb d_Turtles_draw_111 hl (by decide) rfl (fun ls hl => ?_)
  refine lv_aload hx hb d_Turtles_draw_113 (lv_at hl 7 rfl) ?_
  refine lv_iload hx hb d_Turtles_draw_115 (lv_at hl 5 rfl) ?_
  obtain ⟨h_1, hm⟩ := ck_some hm
  refine va_iald hx hb hK hP 35 0 twA_23 rfl h_1 d_Turtles_draw_117 ?_
  refine lv_iconst (v := 1) hx hb d_Turtles_draw_118 (by decide) ?_
  refine lv_iadd hx hb d_Turtles_draw_119 ?_
  refine lv_i2l hx hb d_Turtles_draw_120 rfl ?_
  refine lv_aload hx hb d_Turtles_draw_121 (lv_at hl 7 rfl) ?_
  refine lv_iload hx hb d_Turtles_draw_123 (lv_at hl 5 rfl) ?_
  refine lv_iconst (v := 1) hx hb d_Turtles_draw_125 (by decide) ?_
  refine lv_iadd hx hb d_Turtles_draw_126 ?_
  obtain ⟨h_2, hm⟩ := ck_some hm
  refine va_iald hx hb hK hP 35 0 twA_23 rfl h_2 d_Turtles_draw_127 ?_
  refine lv_i2l hx hb d_Turtles_draw_128 rfl ?_
  obtain ⟨r_4, h_3, hm⟩ := ob0_some hm
  have hFc := x_free0 hS hA
  refine va_calll (va_runS (As := [.long (((a 23 v4.toNatClampNeg) + 1).toInt64), .long ((a 23 (v4 + 1).toNatClampNeg).toInt64)]) (rest := []) ⟨hx, hb, hml, hown, hts⟩ (x_Turtles_floorHalf l H.size n h_3) (va_cwS 2 hts (tw_GS tw_cons cw_Turtles_floorHalf lk_Turtles_84 st_Turtles_floorHalf ini_Turtles) rfl rfl rfl hd_Turtles_floorHalf ⟨Nat.le_of_ble_eq_true rfl, Nat.le_of_ble_eq_true rfl⟩) xpS0 rfl rfl hl.1 rfl (lv_room (Nat.le_of_ble_eq_true rfl)) d_Turtles_draw_129 ⟨Nat.le_of_ble_eq_true rfl, Nat.le_of_ble_eq_true rfl⟩) hS (fun q _ h => hFc q h) hFc (fun r9 u9 t9 H locs ht hvm e9 hB hz1 hk1 hS => ?_)
  have e9 : r_4 = r9 := e9
  subst e9
  replace hP := x_keep hP hk1
  clear hFc hk1 hz1 hvm hB ht
  refine lv_ldc2 (v := (-32)) hx hb hown (htt _ lk_Turtles_87) d_Turtles_draw_132 ?_
  obtain ⟨r_6, h_5, hm⟩ := ob0_some hm
  have hFc := x_free0 hS hA
  refine va_calll (va_runS (As := [.long r_4, .long ((-32))]) (rest := []) ⟨hx, hb, hml, hown, hts⟩ (x_Math_max2 l H.size n h_5) (va_cwS 2 hts (tw_GS tw_cons cw_Math_max2 lk_Turtles_89 st_Math_max2 ini_Math) rfl rfl rfl hd_Math_max2 ⟨Nat.le_of_ble_eq_true rfl, Nat.le_of_ble_eq_true rfl⟩) xpS0 rfl rfl hl.1 rfl (lv_room (Nat.le_of_ble_eq_true rfl)) d_Turtles_draw_135 ⟨Nat.le_of_ble_eq_true rfl, Nat.le_of_ble_eq_true rfl⟩) hS (fun q _ h => hFc q h) hFc (fun r9 u9 t9 H locs ht hvm e9 hB hz1 hk1 hS => ?_)
  have e9 : r_6 = r9 := e9
  subst e9
  replace hP := x_keep hP hk1
  clear hFc hk1 hz1 hvm hB ht
  refine lv_l2i hx hb d_Turtles_draw_138 rfl ?_
  refine lv_istore (lv' := [(9, .int r_6.toInt32), (8, .ref ((u 32))), (0, .ref ((u 5))), (1, .int v1), (2, .int v2), (3, .int v3), (4, .int v4), (5, .int v5), (7, .ref ((u 33)))]) hx hb d_Turtles_draw_139 hl (by decide) rfl (fun ls hl => ?_)
  refine lv_aload hx hb d_Turtles_draw_141 (lv_at hl 1 rfl) ?_
  refine lv_iload hx hb d_Turtles_draw_143 (lv_at hl 6 rfl) ?_
  obtain ⟨h_7, hm⟩ := ck_some hm
  refine va_iald hx hb hK hP 34 0 twA_22 rfl h_7 d_Turtles_draw_145 ?_
  refine lv_iconst (v := 1) hx hb d_Turtles_draw_146 (by decide) ?_
  refine lv_iadd hx hb d_Turtles_draw_147 ?_
  refine lv_i2l hx hb d_Turtles_draw_148 rfl ?_
  refine lv_aload hx hb d_Turtles_draw_149 (lv_at hl 1 rfl) ?_
  refine lv_iload hx hb d_Turtles_draw_151 (lv_at hl 6 rfl) ?_
  refine lv_iconst (v := 1) hx hb d_Turtles_draw_153 (by decide) ?_
  refine lv_iadd hx hb d_Turtles_draw_154 ?_
  obtain ⟨h_8, hm⟩ := ck_some hm
  refine va_iald hx hb hK hP 34 0 twA_22 rfl h_8 d_Turtles_draw_155 ?_
  refine lv_i2l hx hb d_Turtles_draw_156 rfl ?_
  obtain ⟨r_10, h_9, hm⟩ := ob0_some hm
  have hFc := x_free0 hS hA
  refine va_calll (va_runS (As := [.long (((a 22 v4.toNatClampNeg) + 1).toInt64), .long ((a 22 (v4 + 1).toNatClampNeg).toInt64)]) (rest := []) ⟨hx, hb, hml, hown, hts⟩ (x_Turtles_floorHalf l H.size n h_9) (va_cwS 2 hts (tw_GS tw_cons cw_Turtles_floorHalf lk_Turtles_84 st_Turtles_floorHalf ini_Turtles) rfl rfl rfl hd_Turtles_floorHalf ⟨Nat.le_of_ble_eq_true rfl, Nat.le_of_ble_eq_true rfl⟩) xpS0 rfl rfl hl.1 rfl (lv_room (Nat.le_of_ble_eq_true rfl)) d_Turtles_draw_157 ⟨Nat.le_of_ble_eq_true rfl, Nat.le_of_ble_eq_true rfl⟩) hS (fun q _ h => hFc q h) hFc (fun r9 u9 t9 H locs ht hvm e9 hB hz1 hk1 hS => ?_)
  have e9 : r_10 = r9 := e9
  subst e9
  replace hP := x_keep hP hk1
  clear hFc hk1 hz1 hvm hB ht
  refine lv_ldc2 (v := 31) hx hb hown (htt _ lk_Turtles_92) d_Turtles_draw_160 ?_
  obtain ⟨r_12, h_11, hm⟩ := ob0_some hm
  have hFc := x_free0 hS hA
  refine va_calll (va_runS (As := [.long r_10, .long 31]) (rest := []) ⟨hx, hb, hml, hown, hts⟩ (x_Math_min2 l H.size n h_11) (va_cwS 2 hts (tw_GS tw_cons cw_Math_min2 lk_Turtles_94 st_Math_min2 ini_Math) rfl rfl rfl hd_Math_min2 ⟨Nat.le_of_ble_eq_true rfl, Nat.le_of_ble_eq_true rfl⟩) xpS0 rfl rfl hl.1 rfl (lv_room (Nat.le_of_ble_eq_true rfl)) d_Turtles_draw_163 ⟨Nat.le_of_ble_eq_true rfl, Nat.le_of_ble_eq_true rfl⟩) hS (fun q _ h => hFc q h) hFc (fun r9 u9 t9 H locs ht hvm e9 hB hz1 hk1 hS => ?_)
  have e9 : r_12 = r9 := e9
  subst e9
  replace hP := x_keep hP hk1
  clear hFc hk1 hz1 hvm hB ht
  refine lv_l2i hx hb d_Turtles_draw_166 rfl ?_
  refine lv_istore (lv' := [(10, .int r_12.toInt32), (9, .int r_6.toInt32), (8, .ref ((u 32))), (0, .ref ((u 5))), (1, .int v1), (2, .int v2), (3, .int v3), (4, .int v4), (5, .int v5), (7, .ref ((u 33)))]) hx hb d_Turtles_draw_167 hl (by decide) rfl (fun ls hl => ?_)
  refine lv_iload hx hb d_Turtles_draw_169 (lv_at hl 1 rfl) ?_
  refine lv_istore (lv' := [(11, .int r_6.toInt32), (10, .int r_12.toInt32), (9, .int r_6.toInt32), (8, .ref ((u 32))), (0, .ref ((u 5))), (1, .int v1), (2, .int v2), (3, .int v3), (4, .int v4), (5, .int v5), (7, .ref ((u 33)))]) hx hb d_Turtles_draw_171 hl (by decide) rfl (fun ls hl => ?_)
  exact lb_Turtles_draw_173 l dC dI cI adK adV adA u o g n hx hb hml hown hts hK hE hA hr hlocks n _ _ _ _ _ _ _ _ _ hm _ _ _ hP hD hS (lv_sub hl [4, 5, 6, 7, 8, 9, 10, 3, 1, 0] rfl)
def m_Turtles_draw_b333a (n : Nat) (g : Nat → Nat) (rc_173a : (Nat → Int32) → (Nat → Nat → Int32) → Int32 → Int32 → Int32 → Int32 → Int32 → Int32 → Int32 → Option ((Nat → Int32) × (Nat → Nat → Int32) × Int32)) (i : Nat → Int32) (a : Nat → Nat → Int32) (v1 : Int32) (v2 : Int32) (v3 : Int32) (v4 : Int32) (v5 : Int32) (v10 : Int32) (v11 : Int32) : Option ((Nat → Int32) × (Nat → Nat → Int32) × Int32) := ob1 (v11 + 1 : Int32) (fun x_1 => rc_173a i a v1 v2 v3 v4 v5 v10 x_1)
set_option maxHeartbeats 4000000 in
set_option maxRecDepth 100000 in
theorem lb_Turtles_draw_333a (l : Launch) (dC : Nat → ClassId) (dI : Nat → Nat → Nat) (cI : ClassId) (adK adV adA u o g : Nat → Nat) (n : Nat) {p : Program} {e : Env} {s : State} {m : MethodId} {args : Array Value} {below : List Frame} {meth : Method} {c : Code} {A : Nat → Prop} (hx : p.tables.exec = Jvm.exec) (hb : c.code = b_Turtles_draw) (hml : c.maxLocals = 15) (hown : s.vm.findClass R_Turtles = some m.cls) (hts : ∀ w ∈ w_Turtles_draw, w.before args s = true) (hK : va_K (dC, dI) classes [(cI, .int)] s) (hE : tw_E adK adV adA A s s.heap) (hA : ∀ q : Nat, s.heap.size ≤ q → A q) (hr : meth.sig.returnType = none) (hlocks : meth.locks = false) {i2 : Nat → Int32} {a2 : Nat → Nat → Int32} {r2 : Int32} (rc_173a : (Nat → Int32) → (Nat → Nat → Int32) → Int32 → Int32 → Int32 → Int32 → Int32 → Int32 → Int32 → Option ((Nat → Int32) × (Nat → Nat → Int32) × Int32)) (Hrc_173a : ∀ (i : Nat → Int32) (a : Nat → Nat → Int32) (v1 : Int32) (v2 : Int32) (v3 : Int32) (v4 : Int32) (v5 : Int32) (v10 : Int32) (v11 : Int32), rc_173a i a v1 v2 v3 v4 v5 v10 v11 = some (i2, a2, r2) → ∀ (H : Heap) (locs : List Loc) (ls : Array Slot), va_P (dC, dI) classes (TW cI u o i a g) H → va_D A (TW cI u o i a g) → va_S A s.heap H locs → lv_has ls 15 [(0, .ref ((u 5))), (1, .int v1), (2, .int v2), (3, .int v3), (4, .int v4), (5, .int v5), (7, .ref ((u 33))), (8, .ref ((u 33))), (10, .int v10), (11, .int v11)] → W p l e ({ frames := 2, cells := 0, slots := 0, locals := 55 } : Room) s m args below meth c H locs 0 0 (MQ below (va_Qv xV (xB dC dI cI u o g i2 a2 A) A) args s 0 0 A) (F0 m 173 ls [])) (i : Nat → Int32) (a : Nat → Nat → Int32) (v1 : Int32) (v2 : Int32) (v3 : Int32) (v4 : Int32) (v5 : Int32) (v10 : Int32) (v11 : Int32) (hm : m_Turtles_draw_b333a n g rc_173a i a v1 v2 v3 v4 v5 v10 v11 = some (i2, a2, r2)) : ∀ (H : Heap) (locs : List Loc) (ls : Array Slot), va_P (dC, dI) classes (TW cI u o i a g) H → va_D A (TW cI u o i a g) → va_S A s.heap H locs → lv_has ls 15 [(0, .ref ((u 5))), (1, .int v1), (2, .int v2), (3, .int v3), (4, .int v4), (5, .int v5), (7, .ref ((u 33))), (8, .ref ((u 33))), (10, .int v10), (11, .int v11)] → W p l e ({ frames := 2, cells := 0, slots := 0, locals := 55 } : Room) s m args below meth c H locs 0 0 (MQ below (va_Qv xV (xB dC dI cI u o g i2 a2 A) A) args s 0 0 A) (F0 m 333 ls []) := by
  have htt : ∀ w ∈ tw_T, w.before _ s = true := fun w h => hts w (List.mem_cons_of_mem _ h)
  intro H locs ls hP hD hS hl
  rw [m_Turtles_draw_b333a] at hm
  obtain ⟨x_1, ex_1⟩ : ∃ y9 : Int32, y9 = v11 + 1 := ⟨_, rfl⟩
  replace hm := ob1_at ex_1 hm
  refine lv_iinc (v := x_1) (lv' := [(11, .int x_1), (0, .ref ((u 5))), (1, .int v1), (2, .int v2), (3, .int v3), (4, .int v4), (5, .int v5), (7, .ref ((u 33))), (8, .ref ((u 33))), (10, .int v10)]) hx hb d_Turtles_draw_333 hl (k := 9) rfl (by rw [ex_1]; rfl) (by decide) rfl (fun ls hl => ?_)
  refine lv_goto (tgt := 173) hx hb d_Turtles_draw_336 (by decide) ?_
  exact Hrc_173a _ _ _ _ _ _ _ _ _ hm _ _ _ hP hD hS (lv_sub hl [1, 2, 3, 4, 5, 6, 7, 8, 9, 0] rfl)
def m_Turtles_draw_b331a (n : Nat) (g : Nat → Nat) (rc_173a : (Nat → Int32) → (Nat → Nat → Int32) → Int32 → Int32 → Int32 → Int32 → Int32 → Int32 → Int32 → Option ((Nat → Int32) × (Nat → Nat → Int32) × Int32)) (i : Nat → Int32) (a : Nat → Nat → Int32) (v1 : Int32) (v2 : Int32) (v3 : Int32) (v4 : Int32) (v5 : Int32) (v10 : Int32) (v11 : Int32) (s0 : Int32) : Option ((Nat → Int32) × (Nat → Nat → Int32) × Int32) := ck s0 4096 (ob1 (sv a 21 s0.toNatClampNeg v2 : Nat → Nat → Int32) (fun a_2 => m_Turtles_draw_b333a n g rc_173a i a_2 v1 v2 v3 v4 v5 v10 v11))
set_option maxHeartbeats 4000000 in
set_option maxRecDepth 100000 in
theorem lb_Turtles_draw_331a (l : Launch) (dC : Nat → ClassId) (dI : Nat → Nat → Nat) (cI : ClassId) (adK adV adA u o g : Nat → Nat) (n : Nat) {p : Program} {e : Env} {s : State} {m : MethodId} {args : Array Value} {below : List Frame} {meth : Method} {c : Code} {A : Nat → Prop} (hx : p.tables.exec = Jvm.exec) (hb : c.code = b_Turtles_draw) (hml : c.maxLocals = 15) (hown : s.vm.findClass R_Turtles = some m.cls) (hts : ∀ w ∈ w_Turtles_draw, w.before args s = true) (hK : va_K (dC, dI) classes [(cI, .int)] s) (hE : tw_E adK adV adA A s s.heap) (hA : ∀ q : Nat, s.heap.size ≤ q → A q) (hr : meth.sig.returnType = none) (hlocks : meth.locks = false) {i2 : Nat → Int32} {a2 : Nat → Nat → Int32} {r2 : Int32} (rc_173a : (Nat → Int32) → (Nat → Nat → Int32) → Int32 → Int32 → Int32 → Int32 → Int32 → Int32 → Int32 → Option ((Nat → Int32) × (Nat → Nat → Int32) × Int32)) (Hrc_173a : ∀ (i : Nat → Int32) (a : Nat → Nat → Int32) (v1 : Int32) (v2 : Int32) (v3 : Int32) (v4 : Int32) (v5 : Int32) (v10 : Int32) (v11 : Int32), rc_173a i a v1 v2 v3 v4 v5 v10 v11 = some (i2, a2, r2) → ∀ (H : Heap) (locs : List Loc) (ls : Array Slot), va_P (dC, dI) classes (TW cI u o i a g) H → va_D A (TW cI u o i a g) → va_S A s.heap H locs → lv_has ls 15 [(0, .ref ((u 5))), (1, .int v1), (2, .int v2), (3, .int v3), (4, .int v4), (5, .int v5), (7, .ref ((u 33))), (8, .ref ((u 33))), (10, .int v10), (11, .int v11)] → W p l e ({ frames := 2, cells := 0, slots := 0, locals := 55 } : Room) s m args below meth c H locs 0 0 (MQ below (va_Qv xV (xB dC dI cI u o g i2 a2 A) A) args s 0 0 A) (F0 m 173 ls [])) (i : Nat → Int32) (a : Nat → Nat → Int32) (v1 : Int32) (v2 : Int32) (v3 : Int32) (v4 : Int32) (v5 : Int32) (v10 : Int32) (v11 : Int32) (s0 : Int32) (hm : m_Turtles_draw_b331a n g rc_173a i a v1 v2 v3 v4 v5 v10 v11 s0 = some (i2, a2, r2)) : ∀ (H : Heap) (locs : List Loc) (ls : Array Slot), va_P (dC, dI) classes (TW cI u o i a g) H → va_D A (TW cI u o i a g) → va_S A s.heap H locs → lv_has ls 15 [(0, .ref ((u 5))), (1, .int v1), (2, .int v2), (3, .int v3), (4, .int v4), (5, .int v5), (7, .ref ((u 33))), (8, .ref ((u 33))), (10, .int v10), (11, .int v11)] → W p l e ({ frames := 2, cells := 0, slots := 0, locals := 55 } : Room) s m args below meth c H locs 0 0 (MQ below (va_Qv xV (xB dC dI cI u o g i2 a2 A) A) args s 0 0 A) (F0 m 331 ls [.int s0, .ref ((u 31))]) := by
  have htt : ∀ w ∈ tw_T, w.before _ s = true := fun w h => hts w (List.mem_cons_of_mem _ h)
  intro H locs ls hP hD hS hl
  rw [m_Turtles_draw_b331a] at hm
  refine lv_iload_n hx hb d_Turtles_draw_331 rfl (lv_at hl 2 rfl) ?_
  obtain ⟨h_1, hm⟩ := ck_some hm
  refine va_iast hx hb hK hP hD hS 33 0 twA_21 rfl h_1 d_Turtles_draw_332 (fun H locs hP hD hS => ?_)
  obtain ⟨a_2, ea_2⟩ : ∃ y9 : Nat → Nat → Int32, y9 = sv a 21 s0.toNatClampNeg v2 := ⟨_, rfl⟩
  replace hm := ob1_at ea_2 hm
  obtain ⟨hP, hD⟩ := xv_21 ea_2 hP hD
  exact lb_Turtles_draw_333a l dC dI cI adK adV adA u o g n hx hb hml hown hts hK hE hA hr hlocks rc_173a Hrc_173a _ _ _ _ _ _ _ _ _ hm _ _ _ hP hD hS (lv_sub hl [0, 1, 2, 3, 4, 5, 6, 7, 8, 9] rfl)
def m_Turtles_draw_b283a (n : Nat) (g : Nat → Nat) (rc_173a : (Nat → Int32) → (Nat → Nat → Int32) → Int32 → Int32 → Int32 → Int32 → Int32 → Int32 → Int32 → Option ((Nat → Int32) × (Nat → Nat → Int32) × Int32)) (i : Nat → Int32) (a : Nat → Nat → Int32) (v1 : Int32) (v2 : Int32) (v3 : Int32) (v4 : Int32) (v5 : Int32) (v10 : Int32) (v11 : Int32) (v12 : Int64) : Option ((Nat → Int32) × (Nat → Nat → Int32) × Int32) := if ((lg_cmp v12 ((-32)))) < ((0 : Int32)) then m_Turtles_draw_b333a n g rc_173a i a v1 v2 v3 v4 v5 v10 v11 else if ((0 : Int32)) ≤ ((lg_cmp v12 32)) then m_Turtles_draw_b333a n g rc_173a i a v1 v2 v3 v4 v5 v10 v11 else if v3 = ((0 : Int32)) then ob0 (m_Turtles_dotAt n v12.toInt32 v11) (fun r_5 => m_Turtles_draw_b331a n g rc_173a i a v1 v2 v3 v4 v5 v10 v11 r_5) else ob0 (m_Turtles_dotAt n v11 v12.toInt32) (fun r_7 => m_Turtles_draw_b331a n g rc_173a i a v1 v2 v3 v4 v5 v10 v11 r_7)
set_option maxHeartbeats 4000000 in
set_option maxRecDepth 100000 in
theorem lb_Turtles_draw_283a (l : Launch) (dC : Nat → ClassId) (dI : Nat → Nat → Nat) (cI : ClassId) (adK adV adA u o g : Nat → Nat) (n : Nat) {p : Program} {e : Env} {s : State} {m : MethodId} {args : Array Value} {below : List Frame} {meth : Method} {c : Code} {A : Nat → Prop} (hx : p.tables.exec = Jvm.exec) (hb : c.code = b_Turtles_draw) (hml : c.maxLocals = 15) (hown : s.vm.findClass R_Turtles = some m.cls) (hts : ∀ w ∈ w_Turtles_draw, w.before args s = true) (hK : va_K (dC, dI) classes [(cI, .int)] s) (hE : tw_E adK adV adA A s s.heap) (hA : ∀ q : Nat, s.heap.size ≤ q → A q) (hr : meth.sig.returnType = none) (hlocks : meth.locks = false) {i2 : Nat → Int32} {a2 : Nat → Nat → Int32} {r2 : Int32} (rc_173a : (Nat → Int32) → (Nat → Nat → Int32) → Int32 → Int32 → Int32 → Int32 → Int32 → Int32 → Int32 → Option ((Nat → Int32) × (Nat → Nat → Int32) × Int32)) (Hrc_173a : ∀ (i : Nat → Int32) (a : Nat → Nat → Int32) (v1 : Int32) (v2 : Int32) (v3 : Int32) (v4 : Int32) (v5 : Int32) (v10 : Int32) (v11 : Int32), rc_173a i a v1 v2 v3 v4 v5 v10 v11 = some (i2, a2, r2) → ∀ (H : Heap) (locs : List Loc) (ls : Array Slot), va_P (dC, dI) classes (TW cI u o i a g) H → va_D A (TW cI u o i a g) → va_S A s.heap H locs → lv_has ls 15 [(0, .ref ((u 5))), (1, .int v1), (2, .int v2), (3, .int v3), (4, .int v4), (5, .int v5), (7, .ref ((u 33))), (8, .ref ((u 33))), (10, .int v10), (11, .int v11)] → W p l e ({ frames := 2, cells := 0, slots := 0, locals := 55 } : Room) s m args below meth c H locs 0 0 (MQ below (va_Qv xV (xB dC dI cI u o g i2 a2 A) A) args s 0 0 A) (F0 m 173 ls [])) (i : Nat → Int32) (a : Nat → Nat → Int32) (v1 : Int32) (v2 : Int32) (v3 : Int32) (v4 : Int32) (v5 : Int32) (v10 : Int32) (v11 : Int32) (v12 : Int64) (hm : m_Turtles_draw_b283a n g rc_173a i a v1 v2 v3 v4 v5 v10 v11 v12 = some (i2, a2, r2)) : ∀ (H : Heap) (locs : List Loc) (ls : Array Slot), va_P (dC, dI) classes (TW cI u o i a g) H → va_D A (TW cI u o i a g) → va_S A s.heap H locs → lv_has ls 15 [(0, .ref ((u 5))), (1, .int v1), (2, .int v2), (3, .int v3), (4, .int v4), (5, .int v5), (7, .ref ((u 33))), (8, .ref ((u 33))), (10, .int v10), (11, .int v11), (12, .long v12)] → W p l e ({ frames := 2, cells := 0, slots := 0, locals := 55 } : Room) s m args below meth c H locs 0 0 (MQ below (va_Qv xV (xB dC dI cI u o g i2 a2 A) A) args s 0 0 A) (F0 m 283 ls []) := by
  have htt : ∀ w ∈ tw_T, w.before _ s = true := fun w h => hts w (List.mem_cons_of_mem _ h)
  intro H locs ls hP hD hS hl
  rw [m_Turtles_draw_b283a] at hm
  refine lv_lload hx hb d_Turtles_draw_283 (lv_at hl 10 rfl) ?_
  refine lv_ldc2 (v := (-32)) hx hb hown (htt _ lk_Turtles_87) d_Turtles_draw_285 ?_
  refine W.lcmp hx hb d_Turtles_draw_288 ?_
  refine lv_if_lt (tgt := 333) hx hb d_Turtles_draw_289 (by decide) (fun c_1 => ?_) (fun c_1 => ?_)
  · replace hm := if_t c_1 hm
    exact lb_Turtles_draw_333a l dC dI cI adK adV adA u o g n hx hb hml hown hts hK hE hA hr hlocks rc_173a Hrc_173a _ _ _ _ _ _ _ _ _ hm _ _ _ hP hD hS (lv_sub hl [0, 1, 2, 3, 4, 5, 6, 7, 8, 9] rfl)
  · replace hm := if_f c_1 hm
    refine lv_lload hx hb d_Turtles_draw_292 (lv_at hl 10 rfl) ?_
    refine lv_ldc2 (v := 32) hx hb hown (htt _ lk_Turtles_108) d_Turtles_draw_294 ?_
    refine W.lcmp hx hb d_Turtles_draw_297 ?_
    refine lv_if_ge (tgt := 333) hx hb d_Turtles_draw_298 (by decide) (fun c_2 => ?_) (fun c_2 => ?_)
    · replace hm := if_t c_2 hm
      exact lb_Turtles_draw_333a l dC dI cI adK adV adA u o g n hx hb hml hown hts hK hE hA hr hlocks rc_173a Hrc_173a _ _ _ _ _ _ _ _ _ hm _ _ _ hP hD hS (lv_sub hl [0, 1, 2, 3, 4, 5, 6, 7, 8, 9] rfl)
    · replace hm := if_f c_2 hm
      refine lv_lload hx hb d_Turtles_draw_301 (lv_at hl 10 rfl) ?_
      refine lv_l2i hx hb d_Turtles_draw_303 rfl ?_
      refine lv_istore (lv' := [(14, .int v12.toInt32), (0, .ref ((u 5))), (1, .int v1), (2, .int v2), (3, .int v3), (4, .int v4), (5, .int v5), (7, .ref ((u 33))), (8, .ref ((u 33))), (10, .int v10), (11, .int v11), (12, .long v12)]) hx hb d_Turtles_draw_304 hl (by decide) rfl (fun ls hl => ?_)
      refine lv_aload_n hx hb d_Turtles_draw_306 rfl (lv_at hl 1 rfl) ?_
      refine va_get (D := (dC, dI)) (ci := 5) (v := .ref ((u 31))) (C := R_Turtles) (T := F_Turtles) (N := 8) hx hb htt iw_Turtles hown hK hP 5 xo_5 rfl 1 (Nat.le_of_ble_eq_true rfl) (htt _ lk_Turtles_15) (fun _ h9 => h9) xg_5_1 d_Turtles_draw_307 ?_
      refine lv_iload_n hx hb d_Turtles_draw_310 rfl (lv_at hl 4 rfl) ?_
      refine lv_if_eq (tgt := 324) hx hb d_Turtles_draw_311 (by decide) (fun c_3 => ?_) (fun c_3 => ?_)
      · replace hm := if_t c_3 hm
        refine lv_iload hx hb d_Turtles_draw_324 (lv_at hl 0 rfl) ?_
        refine lv_iload hx hb d_Turtles_draw_326 (lv_at hl 10 rfl) ?_
        obtain ⟨r_5, h_4, hm⟩ := ob0_some hm
        have hFc := x_free0 hS hA
        refine va_calli (va_runS (As := [.int v12.toInt32, .int v11]) (rest := [.ref ((u 31))]) ⟨hx, hb, hml, hown, hts⟩ (x_Turtles_dotAt l H.size n h_4) (va_cwS 2 hts (tw_GS tw_cons cw_Turtles_dotAt lk_Turtles_110 st_Turtles_dotAt ini_Turtles) rfl rfl rfl hd_Turtles_dotAt ⟨Nat.le_of_ble_eq_true rfl, Nat.le_of_ble_eq_true rfl⟩) xpS0 rfl rfl hl.1 rfl (lv_room (Nat.le_of_ble_eq_true rfl)) d_Turtles_draw_328 ⟨Nat.le_of_ble_eq_true rfl, Nat.le_of_ble_eq_true rfl⟩) hS (fun q _ h => hFc q h) hFc (fun r9 u9 t9 H locs ht hvm e9 hB hz1 hk1 hS => ?_)
        have e9 : r_5 = r9 := e9
        subst e9
        replace hP := x_keep hP hk1
        clear hFc hk1 hz1 hvm hB ht
        exact lb_Turtles_draw_331a l dC dI cI adK adV adA u o g n hx hb hml hown hts hK hE hA hr hlocks rc_173a Hrc_173a _ _ _ _ _ _ _ _ _ _ hm _ _ _ hP hD hS (lv_sub hl [1, 2, 3, 4, 5, 6, 7, 8, 9, 10] rfl)
      · replace hm := if_f c_3 hm
        refine lv_iload hx hb d_Turtles_draw_314 (lv_at hl 10 rfl) ?_
        refine lv_iload hx hb d_Turtles_draw_316 (lv_at hl 0 rfl) ?_
        obtain ⟨r_7, h_6, hm⟩ := ob0_some hm
        have hFc := x_free0 hS hA
        refine va_calli (va_runS (As := [.int v11, .int v12.toInt32]) (rest := [.ref ((u 31))]) ⟨hx, hb, hml, hown, hts⟩ (x_Turtles_dotAt l H.size n h_6) (va_cwS 2 hts (tw_GS tw_cons cw_Turtles_dotAt lk_Turtles_110 st_Turtles_dotAt ini_Turtles) rfl rfl rfl hd_Turtles_dotAt ⟨Nat.le_of_ble_eq_true rfl, Nat.le_of_ble_eq_true rfl⟩) xpS0 rfl rfl hl.1 rfl (lv_room (Nat.le_of_ble_eq_true rfl)) d_Turtles_draw_318 ⟨Nat.le_of_ble_eq_true rfl, Nat.le_of_ble_eq_true rfl⟩) hS (fun q _ h => hFc q h) hFc (fun r9 u9 t9 H locs ht hvm e9 hB hz1 hk1 hS => ?_)
        have e9 : r_7 = r9 := e9
        subst e9
        replace hP := x_keep hP hk1
        clear hFc hk1 hz1 hvm hB ht
        refine lv_goto (tgt := 331) hx hb d_Turtles_draw_321 (by decide) ?_
        exact lb_Turtles_draw_331a l dC dI cI adK adV adA u o g n hx hb hml hown hts hK hE hA hr hlocks rc_173a Hrc_173a _ _ _ _ _ _ _ _ _ _ hm _ _ _ hP hD hS (lv_sub hl [1, 2, 3, 4, 5, 6, 7, 8, 9, 10] rfl)
def m_Turtles_draw_b173a (n : Nat) (g : Nat → Nat) : Nat → (Nat → Int32) → (Nat → Nat → Int32) → Int32 → Int32 → Int32 → Int32 → Int32 → Int32 → Int32 → Option ((Nat → Int32) × (Nat → Nat → Int32) × Int32)
  | 0, _, _, _, _, _, _, _, _, _ => none
  | f + 1, i, a, v1, v2, v3, v4, v5, v10, v11 => if v10 < v11 then some (i, a, (0 : Int32)) else ck v4 4 (ck ((v4 + 1)) 4 (ob0 (m_Turtles_sideOf n (a 23 v4.toNatClampNeg) (a 23 (v4 + 1).toNatClampNeg) v11) (fun r_5 => if r_5 ≤ ((0 : Int32)) then ck v4 4 (ck ((v4 + 1)) 4 (ob0 (m_Turtles_sideOf n (a 23 v4.toNatClampNeg) (a 23 (v4 + 1).toNatClampNeg) v11) (fun r_10 => if ((0 : Int32)) ≤ r_10 then ck v1 6 (ob0 (m_Turtles_crossing n g i a v4 (tw_st 2 v1.toNatClampNeg) v11) (fun r_14 => m_Turtles_draw_b283a n g (m_Turtles_draw_b173a n g f) i a v1 v2 v3 v4 v5 v10 v11 r_14)) else ck v5 4 (ck ((v5 + 1)) 4 (ob0 (m_Turtles_floorHalf n (((a 23 v5.toNatClampNeg) + 1).toInt64) ((a 23 (v5 + 1).toNatClampNeg).toInt64)) (fun r_18 => m_Turtles_draw_b283a n g (m_Turtles_draw_b173a n g f) i a v1 v2 v3 v4 v5 v10 v11 r_18)))))) else ck v5 4 (ck ((v5 + 1)) 4 (ob0 (m_Turtles_floorHalf n (((a 23 v5.toNatClampNeg) + 1).toInt64) ((a 23 (v5 + 1).toNatClampNeg).toInt64)) (fun r_22 => m_Turtles_draw_b283a n g (m_Turtles_draw_b173a n g f) i a v1 v2 v3 v4 v5 v10 v11 r_22))))))
set_option maxHeartbeats 4000000 in
set_option maxRecDepth 100000 in
theorem lb_Turtles_draw_173a (l : Launch) (dC : Nat → ClassId) (dI : Nat → Nat → Nat) (cI : ClassId) (adK adV adA u o g : Nat → Nat) (n : Nat) {p : Program} {e : Env} {s : State} {m : MethodId} {args : Array Value} {below : List Frame} {meth : Method} {c : Code} {A : Nat → Prop} (hx : p.tables.exec = Jvm.exec) (hb : c.code = b_Turtles_draw) (hml : c.maxLocals = 15) (hown : s.vm.findClass R_Turtles = some m.cls) (hts : ∀ w ∈ w_Turtles_draw, w.before args s = true) (hK : va_K (dC, dI) classes [(cI, .int)] s) (hE : tw_E adK adV adA A s s.heap) (hA : ∀ q : Nat, s.heap.size ≤ q → A q) (hr : meth.sig.returnType = none) (hlocks : meth.locks = false) {i2 : Nat → Int32} {a2 : Nat → Nat → Int32} {r2 : Int32} : ∀ (f : Nat) (i : Nat → Int32) (a : Nat → Nat → Int32) (v1 : Int32) (v2 : Int32) (v3 : Int32) (v4 : Int32) (v5 : Int32) (v10 : Int32) (v11 : Int32), m_Turtles_draw_b173a n g f i a v1 v2 v3 v4 v5 v10 v11 = some (i2, a2, r2) → ∀ (H : Heap) (locs : List Loc) (ls : Array Slot), va_P (dC, dI) classes (TW cI u o i a g) H → va_D A (TW cI u o i a g) → va_S A s.heap H locs → lv_has ls 15 [(0, .ref ((u 5))), (1, .int v1), (2, .int v2), (3, .int v3), (4, .int v4), (5, .int v5), (7, .ref ((u 33))), (8, .ref ((u 33))), (10, .int v10), (11, .int v11)] → W p l e ({ frames := 2, cells := 0, slots := 0, locals := 55 } : Room) s m args below meth c H locs 0 0 (MQ below (va_Qv xV (xB dC dI cI u o g i2 a2 A) A) args s 0 0 A) (F0 m 173 ls []) := by
  have htt : ∀ w ∈ tw_T, w.before _ s = true := fun w h => hts w (List.mem_cons_of_mem _ h)
  intro f
  induction f with
  | zero =>
    intro i a v1 v2 v3 v4 v5 v10 v11 hm
    rw [m_Turtles_draw_b173a] at hm
    cases hm
  | succ f ih =>
    intro i a v1 v2 v3 v4 v5 v10 v11 hm H locs ls hP hD hS hl
    rw [m_Turtles_draw_b173a] at hm
    refine lv_iload hx hb d_Turtles_draw_173 (lv_at hl 9 rfl) ?_
    refine lv_iload hx hb d_Turtles_draw_175 (lv_at hl 8 rfl) ?_
    refine lv_icmp_gt (tgt := 339) hx hb d_Turtles_draw_177 (by decide) (fun c_1 => ?_) (fun c_1 => ?_)
    · replace hm := if_t c_1 hm
      obtain ⟨e1i, e1a, e3⟩ := re3 hm
      obtain ⟨hP, hD⟩ := x_eq e1i e1a hP hD
      exact W.vret hx hb hr (fun t9 ht hW => ⟨⟨(), rfl, trivial, by rw [ht]; exact hP, hD⟩, hS.F ht⟩) hS.2.2 d_Turtles_draw_339
    · replace hm := if_f c_1 hm
      refine lv_aload hx hb d_Turtles_draw_180 (lv_at hl 6 rfl) ?_
      refine lv_iload hx hb d_Turtles_draw_182 (lv_at hl 4 rfl) ?_
      obtain ⟨h_2, hm⟩ := ck_some hm
      refine va_iald hx hb hK hP 35 0 twA_23 rfl h_2 d_Turtles_draw_184 ?_
      refine lv_aload hx hb d_Turtles_draw_185 (lv_at hl 6 rfl) ?_
      refine lv_iload hx hb d_Turtles_draw_187 (lv_at hl 4 rfl) ?_
      refine lv_iconst (v := 1) hx hb d_Turtles_draw_189 (by decide) ?_
      refine lv_iadd hx hb d_Turtles_draw_190 ?_
      obtain ⟨h_3, hm⟩ := ck_some hm
      refine va_iald hx hb hK hP 35 0 twA_23 rfl h_3 d_Turtles_draw_191 ?_
      refine lv_iload hx hb d_Turtles_draw_192 (lv_at hl 9 rfl) ?_
      obtain ⟨r_5, h_4, hm⟩ := ob0_some hm
      have hFc := x_free0 hS hA
      refine va_calli (va_runS (As := [.int (a 23 v4.toNatClampNeg), .int (a 23 (v4 + 1).toNatClampNeg), .int v11]) (rest := []) ⟨hx, hb, hml, hown, hts⟩ (x_Turtles_sideOf l H.size n h_4) (va_cwS 3 hts (tw_GS tw_cons cw_Turtles_sideOf lk_Turtles_97 st_Turtles_sideOf ini_Turtles) rfl rfl rfl hd_Turtles_sideOf ⟨Nat.le_of_ble_eq_true rfl, Nat.le_of_ble_eq_true rfl⟩) xpS0 rfl rfl hl.1 rfl (lv_room (Nat.le_of_ble_eq_true rfl)) d_Turtles_draw_194 ⟨Nat.le_of_ble_eq_true rfl, Nat.le_of_ble_eq_true rfl⟩) hS (fun q _ h => hFc q h) hFc (fun r9 u9 t9 H locs ht hvm e9 hB hz1 hk1 hS => ?_)
      have e9 : r_5 = r9 := e9
      subst e9
      replace hP := x_keep hP hk1
      clear hFc hk1 hz1 hvm hB ht
      refine lv_if_le (tgt := 224) hx hb d_Turtles_draw_197 (by decide) (fun c_6 => ?_) (fun c_6 => ?_)
      · replace hm := if_t c_6 hm
        refine lv_aload hx hb d_Turtles_draw_224 (lv_at hl 7 rfl) ?_
        refine lv_iload hx hb d_Turtles_draw_226 (lv_at hl 4 rfl) ?_
        obtain ⟨h_7, hm⟩ := ck_some hm
        refine va_iald hx hb hK hP 35 0 twA_23 rfl h_7 d_Turtles_draw_228 ?_
        refine lv_aload hx hb d_Turtles_draw_229 (lv_at hl 7 rfl) ?_
        refine lv_iload hx hb d_Turtles_draw_231 (lv_at hl 4 rfl) ?_
        refine lv_iconst (v := 1) hx hb d_Turtles_draw_233 (by decide) ?_
        refine lv_iadd hx hb d_Turtles_draw_234 ?_
        obtain ⟨h_8, hm⟩ := ck_some hm
        refine va_iald hx hb hK hP 35 0 twA_23 rfl h_8 d_Turtles_draw_235 ?_
        refine lv_iload hx hb d_Turtles_draw_236 (lv_at hl 9 rfl) ?_
        obtain ⟨r_10, h_9, hm⟩ := ob0_some hm
        have hFc := x_free0 hS hA
        refine va_calli (va_runS (As := [.int (a 23 v4.toNatClampNeg), .int (a 23 (v4 + 1).toNatClampNeg), .int v11]) (rest := []) ⟨hx, hb, hml, hown, hts⟩ (x_Turtles_sideOf l H.size n h_9) (va_cwS 3 hts (tw_GS tw_cons cw_Turtles_sideOf lk_Turtles_97 st_Turtles_sideOf ini_Turtles) rfl rfl rfl hd_Turtles_sideOf ⟨Nat.le_of_ble_eq_true rfl, Nat.le_of_ble_eq_true rfl⟩) xpS0 rfl rfl hl.1 rfl (lv_room (Nat.le_of_ble_eq_true rfl)) d_Turtles_draw_238 ⟨Nat.le_of_ble_eq_true rfl, Nat.le_of_ble_eq_true rfl⟩) hS (fun q _ h => hFc q h) hFc (fun r9 u9 t9 H locs ht hvm e9 hB hz1 hk1 hS => ?_)
        have e9 : r_10 = r9 := e9
        subst e9
        replace hP := x_keep hP hk1
        clear hFc hk1 hz1 hvm hB ht
        refine lv_if_ge (tgt := 268) hx hb d_Turtles_draw_241 (by decide) (fun c_11 => ?_) (fun c_11 => ?_)
        · replace hm := if_t c_11 hm
          refine lv_aload_n hx hb d_Turtles_draw_268 rfl (lv_at hl 0 rfl) ?_
          refine lv_iload hx hb d_Turtles_draw_269 (lv_at hl 4 rfl) ?_
          refine va_gets hx hb (hE.2 2 (by decide)).1 hS hown (htt _ lk_Turtles_101) (fun _ h9 => h9) d_Turtles_draw_271 ?_
          refine lv_iload_n hx hb d_Turtles_draw_274 rfl (lv_at hl 1 rfl) ?_
          obtain ⟨h_12, hm⟩ := ck_some hm
          refine va_ti (N := 6) (v := .int (tw_st 2 v1.toNatClampNeg)) hx hb (hE.2 2 (by decide)).2 hS h_12 rfl d_Turtles_draw_275 ?_
          refine lv_iload hx hb d_Turtles_draw_276 (lv_at hl 9 rfl) ?_
          obtain ⟨r_14, h_13, hm⟩ := ob0_some hm
          have hFc := x_free0 hS hA
          refine va_calll (va_runV (As := [.int v4, .int (tw_st 2 v1.toNatClampNeg), .int v11]) (rest := []) ⟨hx, hb, hml, hown, hts⟩ (x_Turtles_crossing l dC dI cI adK adV adA u o g H.size n h_13) (cwV 3 hts (tw_GV tw_cons cw_Turtles_crossing lk_Turtles_104 in_Turtles_crossing sel_Turtles_crossing ini_Turtles) rfl rfl rfl ⟨rfl, hd_Turtles_crossing⟩ ⟨Nat.le_of_ble_eq_true rfl, Nat.le_of_ble_eq_true rfl⟩) (xpVr hK hP hS hE hFc xo_5 rfl) rfl rfl hl.1 rfl (lv_room (Nat.le_of_ble_eq_true rfl)) d_Turtles_draw_278 ⟨Nat.le_of_ble_eq_true rfl, Nat.le_of_ble_eq_true rfl⟩) hS (fun q _ h => hFc q h) hFc (fun r9 u9 t9 H locs ht hvm e9 hB hz1 hk1 hS => ?_)
          have e9 : r_14 = r9 := e9
          subst e9
          replace hP := x_keep hP hk1
          clear hFc hk1 hz1 hvm hB ht
          refine lv_lstore (lv' := [(12, .long r_14), (0, .ref ((u 5))), (1, .int v1), (2, .int v2), (3, .int v3), (4, .int v4), (5, .int v5), (7, .ref ((u 33))), (8, .ref ((u 33))), (10, .int v10), (11, .int v11)]) hx hb d_Turtles_draw_281 hl (by decide) rfl (fun ls hl => ?_)
          exact lb_Turtles_draw_283a l dC dI cI adK adV adA u o g n hx hb hml hown hts hK hE hA hr hlocks (m_Turtles_draw_b173a n g f) ih _ _ _ _ _ _ _ _ _ _ hm _ _ _ hP hD hS (lv_sub hl [1, 2, 3, 4, 5, 6, 7, 8, 9, 10, 0] rfl)
        · replace hm := if_f c_11 hm
          refine lv_aload hx hb d_Turtles_draw_244 (lv_at hl 7 rfl) ?_
          refine lv_iload hx hb d_Turtles_draw_246 (lv_at hl 5 rfl) ?_
          obtain ⟨h_15, hm⟩ := ck_some hm
          refine va_iald hx hb hK hP 35 0 twA_23 rfl h_15 d_Turtles_draw_248 ?_
          refine lv_iconst (v := 1) hx hb d_Turtles_draw_249 (by decide) ?_
          refine lv_iadd hx hb d_Turtles_draw_250 ?_
          refine lv_i2l hx hb d_Turtles_draw_251 rfl ?_
          refine lv_aload hx hb d_Turtles_draw_252 (lv_at hl 7 rfl) ?_
          refine lv_iload hx hb d_Turtles_draw_254 (lv_at hl 5 rfl) ?_
          refine lv_iconst (v := 1) hx hb d_Turtles_draw_256 (by decide) ?_
          refine lv_iadd hx hb d_Turtles_draw_257 ?_
          obtain ⟨h_16, hm⟩ := ck_some hm
          refine va_iald hx hb hK hP 35 0 twA_23 rfl h_16 d_Turtles_draw_258 ?_
          refine lv_i2l hx hb d_Turtles_draw_259 rfl ?_
          obtain ⟨r_18, h_17, hm⟩ := ob0_some hm
          have hFc := x_free0 hS hA
          refine va_calll (va_runS (As := [.long (((a 23 v5.toNatClampNeg) + 1).toInt64), .long ((a 23 (v5 + 1).toNatClampNeg).toInt64)]) (rest := []) ⟨hx, hb, hml, hown, hts⟩ (x_Turtles_floorHalf l H.size n h_17) (va_cwS 2 hts (tw_GS tw_cons cw_Turtles_floorHalf lk_Turtles_84 st_Turtles_floorHalf ini_Turtles) rfl rfl rfl hd_Turtles_floorHalf ⟨Nat.le_of_ble_eq_true rfl, Nat.le_of_ble_eq_true rfl⟩) xpS0 rfl rfl hl.1 rfl (lv_room (Nat.le_of_ble_eq_true rfl)) d_Turtles_draw_260 ⟨Nat.le_of_ble_eq_true rfl, Nat.le_of_ble_eq_true rfl⟩) hS (fun q _ h => hFc q h) hFc (fun r9 u9 t9 H locs ht hvm e9 hB hz1 hk1 hS => ?_)
          have e9 : r_18 = r9 := e9
          subst e9
          replace hP := x_keep hP hk1
          clear hFc hk1 hz1 hvm hB ht
          refine lv_lstore (lv' := [(12, .long r_18), (0, .ref ((u 5))), (1, .int v1), (2, .int v2), (3, .int v3), (4, .int v4), (5, .int v5), (7, .ref ((u 33))), (8, .ref ((u 33))), (10, .int v10), (11, .int v11)]) hx hb d_Turtles_draw_263 hl (by decide) rfl (fun ls hl => ?_)
          refine lv_goto (tgt := 283) hx hb d_Turtles_draw_265 (by decide) ?_
          exact lb_Turtles_draw_283a l dC dI cI adK adV adA u o g n hx hb hml hown hts hK hE hA hr hlocks (m_Turtles_draw_b173a n g f) ih _ _ _ _ _ _ _ _ _ _ hm _ _ _ hP hD hS (lv_sub hl [1, 2, 3, 4, 5, 6, 7, 8, 9, 10, 0] rfl)
      · replace hm := if_f c_6 hm
        refine lv_aload hx hb d_Turtles_draw_200 (lv_at hl 6 rfl) ?_
        refine lv_iload hx hb d_Turtles_draw_202 (lv_at hl 5 rfl) ?_
        obtain ⟨h_19, hm⟩ := ck_some hm
        refine va_iald hx hb hK hP 35 0 twA_23 rfl h_19 d_Turtles_draw_204 ?_
        refine lv_iconst (v := 1) hx hb d_Turtles_draw_205 (by decide) ?_
        refine lv_iadd hx hb d_Turtles_draw_206 ?_
        refine lv_i2l hx hb d_Turtles_draw_207 rfl ?_
        refine lv_aload hx hb d_Turtles_draw_208 (lv_at hl 6 rfl) ?_
        refine lv_iload hx hb d_Turtles_draw_210 (lv_at hl 5 rfl) ?_
        refine lv_iconst (v := 1) hx hb d_Turtles_draw_212 (by decide) ?_
        refine lv_iadd hx hb d_Turtles_draw_213 ?_
        obtain ⟨h_20, hm⟩ := ck_some hm
        refine va_iald hx hb hK hP 35 0 twA_23 rfl h_20 d_Turtles_draw_214 ?_
        refine lv_i2l hx hb d_Turtles_draw_215 rfl ?_
        obtain ⟨r_22, h_21, hm⟩ := ob0_some hm
        have hFc := x_free0 hS hA
        refine va_calll (va_runS (As := [.long (((a 23 v5.toNatClampNeg) + 1).toInt64), .long ((a 23 (v5 + 1).toNatClampNeg).toInt64)]) (rest := []) ⟨hx, hb, hml, hown, hts⟩ (x_Turtles_floorHalf l H.size n h_21) (va_cwS 2 hts (tw_GS tw_cons cw_Turtles_floorHalf lk_Turtles_84 st_Turtles_floorHalf ini_Turtles) rfl rfl rfl hd_Turtles_floorHalf ⟨Nat.le_of_ble_eq_true rfl, Nat.le_of_ble_eq_true rfl⟩) xpS0 rfl rfl hl.1 rfl (lv_room (Nat.le_of_ble_eq_true rfl)) d_Turtles_draw_216 ⟨Nat.le_of_ble_eq_true rfl, Nat.le_of_ble_eq_true rfl⟩) hS (fun q _ h => hFc q h) hFc (fun r9 u9 t9 H locs ht hvm e9 hB hz1 hk1 hS => ?_)
        have e9 : r_22 = r9 := e9
        subst e9
        replace hP := x_keep hP hk1
        clear hFc hk1 hz1 hvm hB ht
        refine lv_lstore (lv' := [(12, .long r_22), (0, .ref ((u 5))), (1, .int v1), (2, .int v2), (3, .int v3), (4, .int v4), (5, .int v5), (7, .ref ((u 33))), (8, .ref ((u 33))), (10, .int v10), (11, .int v11)]) hx hb d_Turtles_draw_219 hl (by decide) rfl (fun ls hl => ?_)
        refine lv_goto (tgt := 283) hx hb d_Turtles_draw_221 (by decide) ?_
        exact lb_Turtles_draw_283a l dC dI cI adK adV adA u o g n hx hb hml hown hts hK hE hA hr hlocks (m_Turtles_draw_b173a n g f) ih _ _ _ _ _ _ _ _ _ _ hm _ _ _ hP hD hS (lv_sub hl [1, 2, 3, 4, 5, 6, 7, 8, 9, 10, 0] rfl)
def m_Turtles_draw_b111a (n : Nat) (g : Nat → Nat) (i : Nat → Int32) (a : Nat → Nat → Int32) (v1 : Int32) (v2 : Int32) (v3 : Int32) (v4 : Int32) (v5 : Int32) : Option ((Nat → Int32) × (Nat → Nat → Int32) × Int32) := ck v4 4 (ck ((v4 + 1)) 4 (ob0 (m_Turtles_floorHalf n (((a 23 v4.toNatClampNeg) + 1).toInt64) ((a 23 (v4 + 1).toNatClampNeg).toInt64)) (fun r_4 => ob0 (m_Math_max2 n r_4 (-32 : Int64)) (fun r_6 => ck v4 4 (ck ((v4 + 1)) 4 (ob0 (m_Turtles_floorHalf n (((a 23 v4.toNatClampNeg) + 1).toInt64) ((a 23 (v4 + 1).toNatClampNeg).toInt64)) (fun r_10 => ob0 (m_Math_min2 n r_10 (31 : Int64)) (fun r_12 => m_Turtles_draw_b173a n g n i a v1 v2 v3 v4 v5 r_12.toInt32 r_6.toInt32))))))))
set_option maxHeartbeats 4000000 in
set_option maxRecDepth 100000 in
theorem lb_Turtles_draw_111a (l : Launch) (dC : Nat → ClassId) (dI : Nat → Nat → Nat) (cI : ClassId) (adK adV adA u o g : Nat → Nat) (n : Nat) {p : Program} {e : Env} {s : State} {m : MethodId} {args : Array Value} {below : List Frame} {meth : Method} {c : Code} {A : Nat → Prop} (hx : p.tables.exec = Jvm.exec) (hb : c.code = b_Turtles_draw) (hml : c.maxLocals = 15) (hown : s.vm.findClass R_Turtles = some m.cls) (hts : ∀ w ∈ w_Turtles_draw, w.before args s = true) (hK : va_K (dC, dI) classes [(cI, .int)] s) (hE : tw_E adK adV adA A s s.heap) (hA : ∀ q : Nat, s.heap.size ≤ q → A q) (hr : meth.sig.returnType = none) (hlocks : meth.locks = false) {i2 : Nat → Int32} {a2 : Nat → Nat → Int32} {r2 : Int32} (i : Nat → Int32) (a : Nat → Nat → Int32) (v1 : Int32) (v2 : Int32) (v3 : Int32) (v4 : Int32) (v5 : Int32) (hm : m_Turtles_draw_b111a n g i a v1 v2 v3 v4 v5 = some (i2, a2, r2)) : ∀ (H : Heap) (locs : List Loc) (ls : Array Slot), va_P (dC, dI) classes (TW cI u o i a g) H → va_D A (TW cI u o i a g) → va_S A s.heap H locs → lv_has ls 15 [(0, .ref ((u 5))), (1, .int v1), (2, .int v2), (3, .int v3), (4, .int v4), (5, .int v5), (7, .ref ((u 33)))] → W p l e ({ frames := 2, cells := 0, slots := 0, locals := 55 } : Room) s m args below meth c H locs 0 0 (MQ below (va_Qv xV (xB dC dI cI u o g i2 a2 A) A) args s 0 0 A) (F0 m 111 ls [.ref ((u 33))]) := by
  have htt : ∀ w ∈ tw_T, w.before _ s = true := fun w h => hts w (List.mem_cons_of_mem _ h)
  intro H locs ls hP hD hS hl
  rw [m_Turtles_draw_b111a] at hm
  refine lv_astore (lv' := [(8, .ref ((u 33))), (0, .ref ((u 5))), (1, .int v1), (2, .int v2), (3, .int v3), (4, .int v4), (5, .int v5), (7, .ref ((u 33)))]) hx hb d_Turtles_draw_111 hl (by decide) rfl (fun ls hl => ?_)
  refine lv_aload hx hb d_Turtles_draw_113 (lv_at hl 7 rfl) ?_
  refine lv_iload hx hb d_Turtles_draw_115 (lv_at hl 5 rfl) ?_
  obtain ⟨h_1, hm⟩ := ck_some hm
  refine va_iald hx hb hK hP 35 0 twA_23 rfl h_1 d_Turtles_draw_117 ?_
  refine lv_iconst (v := 1) hx hb d_Turtles_draw_118 (by decide) ?_
  refine lv_iadd hx hb d_Turtles_draw_119 ?_
  refine lv_i2l hx hb d_Turtles_draw_120 rfl ?_
  refine lv_aload hx hb d_Turtles_draw_121 (lv_at hl 7 rfl) ?_
  refine lv_iload hx hb d_Turtles_draw_123 (lv_at hl 5 rfl) ?_
  refine lv_iconst (v := 1) hx hb d_Turtles_draw_125 (by decide) ?_
  refine lv_iadd hx hb d_Turtles_draw_126 ?_
  obtain ⟨h_2, hm⟩ := ck_some hm
  refine va_iald hx hb hK hP 35 0 twA_23 rfl h_2 d_Turtles_draw_127 ?_
  refine lv_i2l hx hb d_Turtles_draw_128 rfl ?_
  obtain ⟨r_4, h_3, hm⟩ := ob0_some hm
  have hFc := x_free0 hS hA
  refine va_calll (va_runS (As := [.long (((a 23 v4.toNatClampNeg) + 1).toInt64), .long ((a 23 (v4 + 1).toNatClampNeg).toInt64)]) (rest := []) ⟨hx, hb, hml, hown, hts⟩ (x_Turtles_floorHalf l H.size n h_3) (va_cwS 2 hts (tw_GS tw_cons cw_Turtles_floorHalf lk_Turtles_84 st_Turtles_floorHalf ini_Turtles) rfl rfl rfl hd_Turtles_floorHalf ⟨Nat.le_of_ble_eq_true rfl, Nat.le_of_ble_eq_true rfl⟩) xpS0 rfl rfl hl.1 rfl (lv_room (Nat.le_of_ble_eq_true rfl)) d_Turtles_draw_129 ⟨Nat.le_of_ble_eq_true rfl, Nat.le_of_ble_eq_true rfl⟩) hS (fun q _ h => hFc q h) hFc (fun r9 u9 t9 H locs ht hvm e9 hB hz1 hk1 hS => ?_)
  have e9 : r_4 = r9 := e9
  subst e9
  replace hP := x_keep hP hk1
  clear hFc hk1 hz1 hvm hB ht
  refine lv_ldc2 (v := (-32)) hx hb hown (htt _ lk_Turtles_87) d_Turtles_draw_132 ?_
  obtain ⟨r_6, h_5, hm⟩ := ob0_some hm
  have hFc := x_free0 hS hA
  refine va_calll (va_runS (As := [.long r_4, .long ((-32))]) (rest := []) ⟨hx, hb, hml, hown, hts⟩ (x_Math_max2 l H.size n h_5) (va_cwS 2 hts (tw_GS tw_cons cw_Math_max2 lk_Turtles_89 st_Math_max2 ini_Math) rfl rfl rfl hd_Math_max2 ⟨Nat.le_of_ble_eq_true rfl, Nat.le_of_ble_eq_true rfl⟩) xpS0 rfl rfl hl.1 rfl (lv_room (Nat.le_of_ble_eq_true rfl)) d_Turtles_draw_135 ⟨Nat.le_of_ble_eq_true rfl, Nat.le_of_ble_eq_true rfl⟩) hS (fun q _ h => hFc q h) hFc (fun r9 u9 t9 H locs ht hvm e9 hB hz1 hk1 hS => ?_)
  have e9 : r_6 = r9 := e9
  subst e9
  replace hP := x_keep hP hk1
  clear hFc hk1 hz1 hvm hB ht
  refine lv_l2i hx hb d_Turtles_draw_138 rfl ?_
  refine lv_istore (lv' := [(9, .int r_6.toInt32), (8, .ref ((u 33))), (0, .ref ((u 5))), (1, .int v1), (2, .int v2), (3, .int v3), (4, .int v4), (5, .int v5), (7, .ref ((u 33)))]) hx hb d_Turtles_draw_139 hl (by decide) rfl (fun ls hl => ?_)
  refine lv_aload hx hb d_Turtles_draw_141 (lv_at hl 1 rfl) ?_
  refine lv_iload hx hb d_Turtles_draw_143 (lv_at hl 6 rfl) ?_
  obtain ⟨h_7, hm⟩ := ck_some hm
  refine va_iald hx hb hK hP 35 0 twA_23 rfl h_7 d_Turtles_draw_145 ?_
  refine lv_iconst (v := 1) hx hb d_Turtles_draw_146 (by decide) ?_
  refine lv_iadd hx hb d_Turtles_draw_147 ?_
  refine lv_i2l hx hb d_Turtles_draw_148 rfl ?_
  refine lv_aload hx hb d_Turtles_draw_149 (lv_at hl 1 rfl) ?_
  refine lv_iload hx hb d_Turtles_draw_151 (lv_at hl 6 rfl) ?_
  refine lv_iconst (v := 1) hx hb d_Turtles_draw_153 (by decide) ?_
  refine lv_iadd hx hb d_Turtles_draw_154 ?_
  obtain ⟨h_8, hm⟩ := ck_some hm
  refine va_iald hx hb hK hP 35 0 twA_23 rfl h_8 d_Turtles_draw_155 ?_
  refine lv_i2l hx hb d_Turtles_draw_156 rfl ?_
  obtain ⟨r_10, h_9, hm⟩ := ob0_some hm
  have hFc := x_free0 hS hA
  refine va_calll (va_runS (As := [.long (((a 23 v4.toNatClampNeg) + 1).toInt64), .long ((a 23 (v4 + 1).toNatClampNeg).toInt64)]) (rest := []) ⟨hx, hb, hml, hown, hts⟩ (x_Turtles_floorHalf l H.size n h_9) (va_cwS 2 hts (tw_GS tw_cons cw_Turtles_floorHalf lk_Turtles_84 st_Turtles_floorHalf ini_Turtles) rfl rfl rfl hd_Turtles_floorHalf ⟨Nat.le_of_ble_eq_true rfl, Nat.le_of_ble_eq_true rfl⟩) xpS0 rfl rfl hl.1 rfl (lv_room (Nat.le_of_ble_eq_true rfl)) d_Turtles_draw_157 ⟨Nat.le_of_ble_eq_true rfl, Nat.le_of_ble_eq_true rfl⟩) hS (fun q _ h => hFc q h) hFc (fun r9 u9 t9 H locs ht hvm e9 hB hz1 hk1 hS => ?_)
  have e9 : r_10 = r9 := e9
  subst e9
  replace hP := x_keep hP hk1
  clear hFc hk1 hz1 hvm hB ht
  refine lv_ldc2 (v := 31) hx hb hown (htt _ lk_Turtles_92) d_Turtles_draw_160 ?_
  obtain ⟨r_12, h_11, hm⟩ := ob0_some hm
  have hFc := x_free0 hS hA
  refine va_calll (va_runS (As := [.long r_10, .long 31]) (rest := []) ⟨hx, hb, hml, hown, hts⟩ (x_Math_min2 l H.size n h_11) (va_cwS 2 hts (tw_GS tw_cons cw_Math_min2 lk_Turtles_94 st_Math_min2 ini_Math) rfl rfl rfl hd_Math_min2 ⟨Nat.le_of_ble_eq_true rfl, Nat.le_of_ble_eq_true rfl⟩) xpS0 rfl rfl hl.1 rfl (lv_room (Nat.le_of_ble_eq_true rfl)) d_Turtles_draw_163 ⟨Nat.le_of_ble_eq_true rfl, Nat.le_of_ble_eq_true rfl⟩) hS (fun q _ h => hFc q h) hFc (fun r9 u9 t9 H locs ht hvm e9 hB hz1 hk1 hS => ?_)
  have e9 : r_12 = r9 := e9
  subst e9
  replace hP := x_keep hP hk1
  clear hFc hk1 hz1 hvm hB ht
  refine lv_l2i hx hb d_Turtles_draw_166 rfl ?_
  refine lv_istore (lv' := [(10, .int r_12.toInt32), (9, .int r_6.toInt32), (8, .ref ((u 33))), (0, .ref ((u 5))), (1, .int v1), (2, .int v2), (3, .int v3), (4, .int v4), (5, .int v5), (7, .ref ((u 33)))]) hx hb d_Turtles_draw_167 hl (by decide) rfl (fun ls hl => ?_)
  refine lv_iload hx hb d_Turtles_draw_169 (lv_at hl 1 rfl) ?_
  refine lv_istore (lv' := [(11, .int r_6.toInt32), (10, .int r_12.toInt32), (9, .int r_6.toInt32), (8, .ref ((u 33))), (0, .ref ((u 5))), (1, .int v1), (2, .int v2), (3, .int v3), (4, .int v4), (5, .int v5), (7, .ref ((u 33)))]) hx hb d_Turtles_draw_171 hl (by decide) rfl (fun ls hl => ?_)
  exact lb_Turtles_draw_173a l dC dI cI adK adV adA u o g n hx hb hml hown hts hK hE hA hr hlocks n _ _ _ _ _ _ _ _ _ hm _ _ _ hP hD hS (lv_sub hl [4, 5, 6, 7, 8, 9, 10, 3, 1, 0] rfl)
def m_Turtles_draw_b93 (n : Nat) (g : Nat → Nat) (i : Nat → Int32) (a : Nat → Nat → Int32) (v1 : Int32) (v2 : Int32) (v3 : Int32) (v4 : Int32) (v5 : Int32) (v6 : Int32) : Option ((Nat → Int32) × (Nat → Nat → Int32) × Int32) := if v6 = ((0 : Int32)) then m_Turtles_draw_b111 n g i a v1 v2 v3 v4 v5 else m_Turtles_draw_b111a n g i a v1 v2 v3 v4 v5
set_option maxHeartbeats 4000000 in
set_option maxRecDepth 100000 in
theorem lb_Turtles_draw_93 (l : Launch) (dC : Nat → ClassId) (dI : Nat → Nat → Nat) (cI : ClassId) (adK adV adA u o g : Nat → Nat) (n : Nat) {p : Program} {e : Env} {s : State} {m : MethodId} {args : Array Value} {below : List Frame} {meth : Method} {c : Code} {A : Nat → Prop} (hx : p.tables.exec = Jvm.exec) (hb : c.code = b_Turtles_draw) (hml : c.maxLocals = 15) (hown : s.vm.findClass R_Turtles = some m.cls) (hts : ∀ w ∈ w_Turtles_draw, w.before args s = true) (hK : va_K (dC, dI) classes [(cI, .int)] s) (hE : tw_E adK adV adA A s s.heap) (hA : ∀ q : Nat, s.heap.size ≤ q → A q) (hr : meth.sig.returnType = none) (hlocks : meth.locks = false) {i2 : Nat → Int32} {a2 : Nat → Nat → Int32} {r2 : Int32} (i : Nat → Int32) (a : Nat → Nat → Int32) (v1 : Int32) (v2 : Int32) (v3 : Int32) (v4 : Int32) (v5 : Int32) (v6 : Int32) (hm : m_Turtles_draw_b93 n g i a v1 v2 v3 v4 v5 v6 = some (i2, a2, r2)) : ∀ (H : Heap) (locs : List Loc) (ls : Array Slot), va_P (dC, dI) classes (TW cI u o i a g) H → va_D A (TW cI u o i a g) → va_S A s.heap H locs → lv_has ls 15 [(0, .ref ((u 5))), (1, .int v1), (2, .int v2), (3, .int v3), (4, .int v4), (5, .int v5), (6, .int v6)] → W p l e ({ frames := 2, cells := 0, slots := 0, locals := 55 } : Room) s m args below meth c H locs 0 0 (MQ below (va_Qv xV (xB dC dI cI u o g i2 a2 A) A) args s 0 0 A) (F0 m 93 ls [.ref ((u 33))]) := by
  have htt : ∀ w ∈ tw_T, w.before _ s = true := fun w h => hts w (List.mem_cons_of_mem _ h)
  intro H locs ls hP hD hS hl
  rw [m_Turtles_draw_b93] at hm
  refine lv_astore (lv' := [(7, .ref ((u 33))), (0, .ref ((u 5))), (1, .int v1), (2, .int v2), (3, .int v3), (4, .int v4), (5, .int v5), (6, .int v6)]) hx hb d_Turtles_draw_93 hl (by decide) rfl (fun ls hl => ?_)
  refine lv_iload hx hb d_Turtles_draw_95 (lv_at hl 7 rfl) ?_
  refine lv_if_eq (tgt := 107) hx hb d_Turtles_draw_97 (by decide) (fun c_1 => ?_) (fun c_1 => ?_)
  · replace hm := if_t c_1 hm
    refine lv_aload_n hx hb d_Turtles_draw_107 rfl (lv_at hl 1 rfl) ?_
    refine va_get (D := (dC, dI)) (ci := 5) (v := .ref ((u 32))) (C := R_Turtles) (T := F_Turtles) (N := 8) hx hb htt iw_Turtles hown hK hP 5 xo_5 rfl 3 (Nat.le_of_ble_eq_true rfl) (htt _ lk_Turtles_18) (fun _ h9 => h9) xg_5_3 d_Turtles_draw_108 ?_
    exact lb_Turtles_draw_111 l dC dI cI adK adV adA u o g n hx hb hml hown hts hK hE hA hr hlocks _ _ _ _ _ _ _ hm _ _ _ hP hD hS (lv_sub hl [1, 2, 3, 4, 5, 6, 0] rfl)
  · replace hm := if_f c_1 hm
    refine lv_aload_n hx hb d_Turtles_draw_100 rfl (lv_at hl 1 rfl) ?_
    refine va_get (D := (dC, dI)) (ci := 5) (v := .ref ((u 33))) (C := R_Turtles) (T := F_Turtles) (N := 8) hx hb htt iw_Turtles hown hK hP 5 xo_5 rfl 4 (Nat.le_of_ble_eq_true rfl) (htt _ lk_Turtles_21) (fun _ h9 => h9) xg_5_4 d_Turtles_draw_101 ?_
    refine lv_goto (tgt := 111) hx hb d_Turtles_draw_104 (by decide) ?_
    exact lb_Turtles_draw_111a l dC dI cI adK adV adA u o g n hx hb hml hown hts hK hE hA hr hlocks _ _ _ _ _ _ _ hm _ _ _ hP hD hS (lv_sub hl [1, 2, 3, 4, 5, 6, 0] rfl)
def m_Turtles_draw_b333b (n : Nat) (g : Nat → Nat) (rc_173b : (Nat → Int32) → (Nat → Nat → Int32) → Int32 → Int32 → Int32 → Int32 → Int32 → Int32 → Int32 → Option ((Nat → Int32) × (Nat → Nat → Int32) × Int32)) (i : Nat → Int32) (a : Nat → Nat → Int32) (v1 : Int32) (v2 : Int32) (v3 : Int32) (v4 : Int32) (v5 : Int32) (v10 : Int32) (v11 : Int32) : Option ((Nat → Int32) × (Nat → Nat → Int32) × Int32) := ob1 (v11 + 1 : Int32) (fun x_1 => rc_173b i a v1 v2 v3 v4 v5 v10 x_1)
set_option maxHeartbeats 4000000 in
set_option maxRecDepth 100000 in
theorem lb_Turtles_draw_333b (l : Launch) (dC : Nat → ClassId) (dI : Nat → Nat → Nat) (cI : ClassId) (adK adV adA u o g : Nat → Nat) (n : Nat) {p : Program} {e : Env} {s : State} {m : MethodId} {args : Array Value} {below : List Frame} {meth : Method} {c : Code} {A : Nat → Prop} (hx : p.tables.exec = Jvm.exec) (hb : c.code = b_Turtles_draw) (hml : c.maxLocals = 15) (hown : s.vm.findClass R_Turtles = some m.cls) (hts : ∀ w ∈ w_Turtles_draw, w.before args s = true) (hK : va_K (dC, dI) classes [(cI, .int)] s) (hE : tw_E adK adV adA A s s.heap) (hA : ∀ q : Nat, s.heap.size ≤ q → A q) (hr : meth.sig.returnType = none) (hlocks : meth.locks = false) {i2 : Nat → Int32} {a2 : Nat → Nat → Int32} {r2 : Int32} (rc_173b : (Nat → Int32) → (Nat → Nat → Int32) → Int32 → Int32 → Int32 → Int32 → Int32 → Int32 → Int32 → Option ((Nat → Int32) × (Nat → Nat → Int32) × Int32)) (Hrc_173b : ∀ (i : Nat → Int32) (a : Nat → Nat → Int32) (v1 : Int32) (v2 : Int32) (v3 : Int32) (v4 : Int32) (v5 : Int32) (v10 : Int32) (v11 : Int32), rc_173b i a v1 v2 v3 v4 v5 v10 v11 = some (i2, a2, r2) → ∀ (H : Heap) (locs : List Loc) (ls : Array Slot), va_P (dC, dI) classes (TW cI u o i a g) H → va_D A (TW cI u o i a g) → va_S A s.heap H locs → lv_has ls 15 [(0, .ref ((u 5))), (1, .int v1), (2, .int v2), (3, .int v3), (4, .int v4), (5, .int v5), (7, .ref ((u 32))), (8, .ref ((u 32))), (10, .int v10), (11, .int v11)] → W p l e ({ frames := 2, cells := 0, slots := 0, locals := 55 } : Room) s m args below meth c H locs 0 0 (MQ below (va_Qv xV (xB dC dI cI u o g i2 a2 A) A) args s 0 0 A) (F0 m 173 ls [])) (i : Nat → Int32) (a : Nat → Nat → Int32) (v1 : Int32) (v2 : Int32) (v3 : Int32) (v4 : Int32) (v5 : Int32) (v10 : Int32) (v11 : Int32) (hm : m_Turtles_draw_b333b n g rc_173b i a v1 v2 v3 v4 v5 v10 v11 = some (i2, a2, r2)) : ∀ (H : Heap) (locs : List Loc) (ls : Array Slot), va_P (dC, dI) classes (TW cI u o i a g) H → va_D A (TW cI u o i a g) → va_S A s.heap H locs → lv_has ls 15 [(0, .ref ((u 5))), (1, .int v1), (2, .int v2), (3, .int v3), (4, .int v4), (5, .int v5), (7, .ref ((u 32))), (8, .ref ((u 32))), (10, .int v10), (11, .int v11)] → W p l e ({ frames := 2, cells := 0, slots := 0, locals := 55 } : Room) s m args below meth c H locs 0 0 (MQ below (va_Qv xV (xB dC dI cI u o g i2 a2 A) A) args s 0 0 A) (F0 m 333 ls []) := by
  have htt : ∀ w ∈ tw_T, w.before _ s = true := fun w h => hts w (List.mem_cons_of_mem _ h)
  intro H locs ls hP hD hS hl
  rw [m_Turtles_draw_b333b] at hm
  obtain ⟨x_1, ex_1⟩ : ∃ y9 : Int32, y9 = v11 + 1 := ⟨_, rfl⟩
  replace hm := ob1_at ex_1 hm
  refine lv_iinc (v := x_1) (lv' := [(11, .int x_1), (0, .ref ((u 5))), (1, .int v1), (2, .int v2), (3, .int v3), (4, .int v4), (5, .int v5), (7, .ref ((u 32))), (8, .ref ((u 32))), (10, .int v10)]) hx hb d_Turtles_draw_333 hl (k := 9) rfl (by rw [ex_1]; rfl) (by decide) rfl (fun ls hl => ?_)
  refine lv_goto (tgt := 173) hx hb d_Turtles_draw_336 (by decide) ?_
  exact Hrc_173b _ _ _ _ _ _ _ _ _ hm _ _ _ hP hD hS (lv_sub hl [1, 2, 3, 4, 5, 6, 7, 8, 9, 0] rfl)
def m_Turtles_draw_b331b (n : Nat) (g : Nat → Nat) (rc_173b : (Nat → Int32) → (Nat → Nat → Int32) → Int32 → Int32 → Int32 → Int32 → Int32 → Int32 → Int32 → Option ((Nat → Int32) × (Nat → Nat → Int32) × Int32)) (i : Nat → Int32) (a : Nat → Nat → Int32) (v1 : Int32) (v2 : Int32) (v3 : Int32) (v4 : Int32) (v5 : Int32) (v10 : Int32) (v11 : Int32) (s0 : Int32) : Option ((Nat → Int32) × (Nat → Nat → Int32) × Int32) := ck s0 4096 (ob1 (sv a 21 s0.toNatClampNeg v2 : Nat → Nat → Int32) (fun a_2 => m_Turtles_draw_b333b n g rc_173b i a_2 v1 v2 v3 v4 v5 v10 v11))
set_option maxHeartbeats 4000000 in
set_option maxRecDepth 100000 in
theorem lb_Turtles_draw_331b (l : Launch) (dC : Nat → ClassId) (dI : Nat → Nat → Nat) (cI : ClassId) (adK adV adA u o g : Nat → Nat) (n : Nat) {p : Program} {e : Env} {s : State} {m : MethodId} {args : Array Value} {below : List Frame} {meth : Method} {c : Code} {A : Nat → Prop} (hx : p.tables.exec = Jvm.exec) (hb : c.code = b_Turtles_draw) (hml : c.maxLocals = 15) (hown : s.vm.findClass R_Turtles = some m.cls) (hts : ∀ w ∈ w_Turtles_draw, w.before args s = true) (hK : va_K (dC, dI) classes [(cI, .int)] s) (hE : tw_E adK adV adA A s s.heap) (hA : ∀ q : Nat, s.heap.size ≤ q → A q) (hr : meth.sig.returnType = none) (hlocks : meth.locks = false) {i2 : Nat → Int32} {a2 : Nat → Nat → Int32} {r2 : Int32} (rc_173b : (Nat → Int32) → (Nat → Nat → Int32) → Int32 → Int32 → Int32 → Int32 → Int32 → Int32 → Int32 → Option ((Nat → Int32) × (Nat → Nat → Int32) × Int32)) (Hrc_173b : ∀ (i : Nat → Int32) (a : Nat → Nat → Int32) (v1 : Int32) (v2 : Int32) (v3 : Int32) (v4 : Int32) (v5 : Int32) (v10 : Int32) (v11 : Int32), rc_173b i a v1 v2 v3 v4 v5 v10 v11 = some (i2, a2, r2) → ∀ (H : Heap) (locs : List Loc) (ls : Array Slot), va_P (dC, dI) classes (TW cI u o i a g) H → va_D A (TW cI u o i a g) → va_S A s.heap H locs → lv_has ls 15 [(0, .ref ((u 5))), (1, .int v1), (2, .int v2), (3, .int v3), (4, .int v4), (5, .int v5), (7, .ref ((u 32))), (8, .ref ((u 32))), (10, .int v10), (11, .int v11)] → W p l e ({ frames := 2, cells := 0, slots := 0, locals := 55 } : Room) s m args below meth c H locs 0 0 (MQ below (va_Qv xV (xB dC dI cI u o g i2 a2 A) A) args s 0 0 A) (F0 m 173 ls [])) (i : Nat → Int32) (a : Nat → Nat → Int32) (v1 : Int32) (v2 : Int32) (v3 : Int32) (v4 : Int32) (v5 : Int32) (v10 : Int32) (v11 : Int32) (s0 : Int32) (hm : m_Turtles_draw_b331b n g rc_173b i a v1 v2 v3 v4 v5 v10 v11 s0 = some (i2, a2, r2)) : ∀ (H : Heap) (locs : List Loc) (ls : Array Slot), va_P (dC, dI) classes (TW cI u o i a g) H → va_D A (TW cI u o i a g) → va_S A s.heap H locs → lv_has ls 15 [(0, .ref ((u 5))), (1, .int v1), (2, .int v2), (3, .int v3), (4, .int v4), (5, .int v5), (7, .ref ((u 32))), (8, .ref ((u 32))), (10, .int v10), (11, .int v11)] → W p l e ({ frames := 2, cells := 0, slots := 0, locals := 55 } : Room) s m args below meth c H locs 0 0 (MQ below (va_Qv xV (xB dC dI cI u o g i2 a2 A) A) args s 0 0 A) (F0 m 331 ls [.int s0, .ref ((u 31))]) := by
  have htt : ∀ w ∈ tw_T, w.before _ s = true := fun w h => hts w (List.mem_cons_of_mem _ h)
  intro H locs ls hP hD hS hl
  rw [m_Turtles_draw_b331b] at hm
  refine lv_iload_n hx hb d_Turtles_draw_331 rfl (lv_at hl 2 rfl) ?_
  obtain ⟨h_1, hm⟩ := ck_some hm
  refine va_iast hx hb hK hP hD hS 33 0 twA_21 rfl h_1 d_Turtles_draw_332 (fun H locs hP hD hS => ?_)
  obtain ⟨a_2, ea_2⟩ : ∃ y9 : Nat → Nat → Int32, y9 = sv a 21 s0.toNatClampNeg v2 := ⟨_, rfl⟩
  replace hm := ob1_at ea_2 hm
  obtain ⟨hP, hD⟩ := xv_21 ea_2 hP hD
  exact lb_Turtles_draw_333b l dC dI cI adK adV adA u o g n hx hb hml hown hts hK hE hA hr hlocks rc_173b Hrc_173b _ _ _ _ _ _ _ _ _ hm _ _ _ hP hD hS (lv_sub hl [0, 1, 2, 3, 4, 5, 6, 7, 8, 9] rfl)
def m_Turtles_draw_b283b (n : Nat) (g : Nat → Nat) (rc_173b : (Nat → Int32) → (Nat → Nat → Int32) → Int32 → Int32 → Int32 → Int32 → Int32 → Int32 → Int32 → Option ((Nat → Int32) × (Nat → Nat → Int32) × Int32)) (i : Nat → Int32) (a : Nat → Nat → Int32) (v1 : Int32) (v2 : Int32) (v3 : Int32) (v4 : Int32) (v5 : Int32) (v10 : Int32) (v11 : Int32) (v12 : Int64) : Option ((Nat → Int32) × (Nat → Nat → Int32) × Int32) := if ((lg_cmp v12 ((-32)))) < ((0 : Int32)) then m_Turtles_draw_b333b n g rc_173b i a v1 v2 v3 v4 v5 v10 v11 else if ((0 : Int32)) ≤ ((lg_cmp v12 32)) then m_Turtles_draw_b333b n g rc_173b i a v1 v2 v3 v4 v5 v10 v11 else if v3 = ((0 : Int32)) then ob0 (m_Turtles_dotAt n v12.toInt32 v11) (fun r_5 => m_Turtles_draw_b331b n g rc_173b i a v1 v2 v3 v4 v5 v10 v11 r_5) else ob0 (m_Turtles_dotAt n v11 v12.toInt32) (fun r_7 => m_Turtles_draw_b331b n g rc_173b i a v1 v2 v3 v4 v5 v10 v11 r_7)
set_option maxHeartbeats 4000000 in
set_option maxRecDepth 100000 in
theorem lb_Turtles_draw_283b (l : Launch) (dC : Nat → ClassId) (dI : Nat → Nat → Nat) (cI : ClassId) (adK adV adA u o g : Nat → Nat) (n : Nat) {p : Program} {e : Env} {s : State} {m : MethodId} {args : Array Value} {below : List Frame} {meth : Method} {c : Code} {A : Nat → Prop} (hx : p.tables.exec = Jvm.exec) (hb : c.code = b_Turtles_draw) (hml : c.maxLocals = 15) (hown : s.vm.findClass R_Turtles = some m.cls) (hts : ∀ w ∈ w_Turtles_draw, w.before args s = true) (hK : va_K (dC, dI) classes [(cI, .int)] s) (hE : tw_E adK adV adA A s s.heap) (hA : ∀ q : Nat, s.heap.size ≤ q → A q) (hr : meth.sig.returnType = none) (hlocks : meth.locks = false) {i2 : Nat → Int32} {a2 : Nat → Nat → Int32} {r2 : Int32} (rc_173b : (Nat → Int32) → (Nat → Nat → Int32) → Int32 → Int32 → Int32 → Int32 → Int32 → Int32 → Int32 → Option ((Nat → Int32) × (Nat → Nat → Int32) × Int32)) (Hrc_173b : ∀ (i : Nat → Int32) (a : Nat → Nat → Int32) (v1 : Int32) (v2 : Int32) (v3 : Int32) (v4 : Int32) (v5 : Int32) (v10 : Int32) (v11 : Int32), rc_173b i a v1 v2 v3 v4 v5 v10 v11 = some (i2, a2, r2) → ∀ (H : Heap) (locs : List Loc) (ls : Array Slot), va_P (dC, dI) classes (TW cI u o i a g) H → va_D A (TW cI u o i a g) → va_S A s.heap H locs → lv_has ls 15 [(0, .ref ((u 5))), (1, .int v1), (2, .int v2), (3, .int v3), (4, .int v4), (5, .int v5), (7, .ref ((u 32))), (8, .ref ((u 32))), (10, .int v10), (11, .int v11)] → W p l e ({ frames := 2, cells := 0, slots := 0, locals := 55 } : Room) s m args below meth c H locs 0 0 (MQ below (va_Qv xV (xB dC dI cI u o g i2 a2 A) A) args s 0 0 A) (F0 m 173 ls [])) (i : Nat → Int32) (a : Nat → Nat → Int32) (v1 : Int32) (v2 : Int32) (v3 : Int32) (v4 : Int32) (v5 : Int32) (v10 : Int32) (v11 : Int32) (v12 : Int64) (hm : m_Turtles_draw_b283b n g rc_173b i a v1 v2 v3 v4 v5 v10 v11 v12 = some (i2, a2, r2)) : ∀ (H : Heap) (locs : List Loc) (ls : Array Slot), va_P (dC, dI) classes (TW cI u o i a g) H → va_D A (TW cI u o i a g) → va_S A s.heap H locs → lv_has ls 15 [(0, .ref ((u 5))), (1, .int v1), (2, .int v2), (3, .int v3), (4, .int v4), (5, .int v5), (7, .ref ((u 32))), (8, .ref ((u 32))), (10, .int v10), (11, .int v11), (12, .long v12)] → W p l e ({ frames := 2, cells := 0, slots := 0, locals := 55 } : Room) s m args below meth c H locs 0 0 (MQ below (va_Qv xV (xB dC dI cI u o g i2 a2 A) A) args s 0 0 A) (F0 m 283 ls []) := by
  have htt : ∀ w ∈ tw_T, w.before _ s = true := fun w h => hts w (List.mem_cons_of_mem _ h)
  intro H locs ls hP hD hS hl
  rw [m_Turtles_draw_b283b] at hm
  refine lv_lload hx hb d_Turtles_draw_283 (lv_at hl 10 rfl) ?_
  refine lv_ldc2 (v := (-32)) hx hb hown (htt _ lk_Turtles_87) d_Turtles_draw_285 ?_
  refine W.lcmp hx hb d_Turtles_draw_288 ?_
  refine lv_if_lt (tgt := 333) hx hb d_Turtles_draw_289 (by decide) (fun c_1 => ?_) (fun c_1 => ?_)
  · replace hm := if_t c_1 hm
    exact lb_Turtles_draw_333b l dC dI cI adK adV adA u o g n hx hb hml hown hts hK hE hA hr hlocks rc_173b Hrc_173b _ _ _ _ _ _ _ _ _ hm _ _ _ hP hD hS (lv_sub hl [0, 1, 2, 3, 4, 5, 6, 7, 8, 9] rfl)
  · replace hm := if_f c_1 hm
    refine lv_lload hx hb d_Turtles_draw_292 (lv_at hl 10 rfl) ?_
    refine lv_ldc2 (v := 32) hx hb hown (htt _ lk_Turtles_108) d_Turtles_draw_294 ?_
    refine W.lcmp hx hb d_Turtles_draw_297 ?_
    refine lv_if_ge (tgt := 333) hx hb d_Turtles_draw_298 (by decide) (fun c_2 => ?_) (fun c_2 => ?_)
    · replace hm := if_t c_2 hm
      exact lb_Turtles_draw_333b l dC dI cI adK adV adA u o g n hx hb hml hown hts hK hE hA hr hlocks rc_173b Hrc_173b _ _ _ _ _ _ _ _ _ hm _ _ _ hP hD hS (lv_sub hl [0, 1, 2, 3, 4, 5, 6, 7, 8, 9] rfl)
    · replace hm := if_f c_2 hm
      refine lv_lload hx hb d_Turtles_draw_301 (lv_at hl 10 rfl) ?_
      refine lv_l2i hx hb d_Turtles_draw_303 rfl ?_
      refine lv_istore (lv' := [(14, .int v12.toInt32), (0, .ref ((u 5))), (1, .int v1), (2, .int v2), (3, .int v3), (4, .int v4), (5, .int v5), (7, .ref ((u 32))), (8, .ref ((u 32))), (10, .int v10), (11, .int v11), (12, .long v12)]) hx hb d_Turtles_draw_304 hl (by decide) rfl (fun ls hl => ?_)
      refine lv_aload_n hx hb d_Turtles_draw_306 rfl (lv_at hl 1 rfl) ?_
      refine va_get (D := (dC, dI)) (ci := 5) (v := .ref ((u 31))) (C := R_Turtles) (T := F_Turtles) (N := 8) hx hb htt iw_Turtles hown hK hP 5 xo_5 rfl 1 (Nat.le_of_ble_eq_true rfl) (htt _ lk_Turtles_15) (fun _ h9 => h9) xg_5_1 d_Turtles_draw_307 ?_
      refine lv_iload_n hx hb d_Turtles_draw_310 rfl (lv_at hl 4 rfl) ?_
      refine lv_if_eq (tgt := 324) hx hb d_Turtles_draw_311 (by decide) (fun c_3 => ?_) (fun c_3 => ?_)
      · replace hm := if_t c_3 hm
        refine lv_iload hx hb d_Turtles_draw_324 (lv_at hl 0 rfl) ?_
        refine lv_iload hx hb d_Turtles_draw_326 (lv_at hl 10 rfl) ?_
        obtain ⟨r_5, h_4, hm⟩ := ob0_some hm
        have hFc := x_free0 hS hA
        refine va_calli (va_runS (As := [.int v12.toInt32, .int v11]) (rest := [.ref ((u 31))]) ⟨hx, hb, hml, hown, hts⟩ (x_Turtles_dotAt l H.size n h_4) (va_cwS 2 hts (tw_GS tw_cons cw_Turtles_dotAt lk_Turtles_110 st_Turtles_dotAt ini_Turtles) rfl rfl rfl hd_Turtles_dotAt ⟨Nat.le_of_ble_eq_true rfl, Nat.le_of_ble_eq_true rfl⟩) xpS0 rfl rfl hl.1 rfl (lv_room (Nat.le_of_ble_eq_true rfl)) d_Turtles_draw_328 ⟨Nat.le_of_ble_eq_true rfl, Nat.le_of_ble_eq_true rfl⟩) hS (fun q _ h => hFc q h) hFc (fun r9 u9 t9 H locs ht hvm e9 hB hz1 hk1 hS => ?_)
        have e9 : r_5 = r9 := e9
        subst e9
        replace hP := x_keep hP hk1
        clear hFc hk1 hz1 hvm hB ht
        exact lb_Turtles_draw_331b l dC dI cI adK adV adA u o g n hx hb hml hown hts hK hE hA hr hlocks rc_173b Hrc_173b _ _ _ _ _ _ _ _ _ _ hm _ _ _ hP hD hS (lv_sub hl [1, 2, 3, 4, 5, 6, 7, 8, 9, 10] rfl)
      · replace hm := if_f c_3 hm
        refine lv_iload hx hb d_Turtles_draw_314 (lv_at hl 10 rfl) ?_
        refine lv_iload hx hb d_Turtles_draw_316 (lv_at hl 0 rfl) ?_
        obtain ⟨r_7, h_6, hm⟩ := ob0_some hm
        have hFc := x_free0 hS hA
        refine va_calli (va_runS (As := [.int v11, .int v12.toInt32]) (rest := [.ref ((u 31))]) ⟨hx, hb, hml, hown, hts⟩ (x_Turtles_dotAt l H.size n h_6) (va_cwS 2 hts (tw_GS tw_cons cw_Turtles_dotAt lk_Turtles_110 st_Turtles_dotAt ini_Turtles) rfl rfl rfl hd_Turtles_dotAt ⟨Nat.le_of_ble_eq_true rfl, Nat.le_of_ble_eq_true rfl⟩) xpS0 rfl rfl hl.1 rfl (lv_room (Nat.le_of_ble_eq_true rfl)) d_Turtles_draw_318 ⟨Nat.le_of_ble_eq_true rfl, Nat.le_of_ble_eq_true rfl⟩) hS (fun q _ h => hFc q h) hFc (fun r9 u9 t9 H locs ht hvm e9 hB hz1 hk1 hS => ?_)
        have e9 : r_7 = r9 := e9
        subst e9
        replace hP := x_keep hP hk1
        clear hFc hk1 hz1 hvm hB ht
        refine lv_goto (tgt := 331) hx hb d_Turtles_draw_321 (by decide) ?_
        exact lb_Turtles_draw_331b l dC dI cI adK adV adA u o g n hx hb hml hown hts hK hE hA hr hlocks rc_173b Hrc_173b _ _ _ _ _ _ _ _ _ _ hm _ _ _ hP hD hS (lv_sub hl [1, 2, 3, 4, 5, 6, 7, 8, 9, 10] rfl)
def m_Turtles_draw_b173b (n : Nat) (g : Nat → Nat) : Nat → (Nat → Int32) → (Nat → Nat → Int32) → Int32 → Int32 → Int32 → Int32 → Int32 → Int32 → Int32 → Option ((Nat → Int32) × (Nat → Nat → Int32) × Int32)
  | 0, _, _, _, _, _, _, _, _, _ => none
  | f + 1, i, a, v1, v2, v3, v4, v5, v10, v11 => if v10 < v11 then some (i, a, (0 : Int32)) else ck v4 4 (ck ((v4 + 1)) 4 (ob0 (m_Turtles_sideOf n (a 22 v4.toNatClampNeg) (a 22 (v4 + 1).toNatClampNeg) v11) (fun r_5 => if r_5 ≤ ((0 : Int32)) then ck v4 4 (ck ((v4 + 1)) 4 (ob0 (m_Turtles_sideOf n (a 22 v4.toNatClampNeg) (a 22 (v4 + 1).toNatClampNeg) v11) (fun r_10 => if ((0 : Int32)) ≤ r_10 then ck v1 6 (ob0 (m_Turtles_crossing n g i a v4 (tw_st 2 v1.toNatClampNeg) v11) (fun r_14 => m_Turtles_draw_b283b n g (m_Turtles_draw_b173b n g f) i a v1 v2 v3 v4 v5 v10 v11 r_14)) else ck v5 4 (ck ((v5 + 1)) 4 (ob0 (m_Turtles_floorHalf n (((a 22 v5.toNatClampNeg) + 1).toInt64) ((a 22 (v5 + 1).toNatClampNeg).toInt64)) (fun r_18 => m_Turtles_draw_b283b n g (m_Turtles_draw_b173b n g f) i a v1 v2 v3 v4 v5 v10 v11 r_18)))))) else ck v5 4 (ck ((v5 + 1)) 4 (ob0 (m_Turtles_floorHalf n (((a 22 v5.toNatClampNeg) + 1).toInt64) ((a 22 (v5 + 1).toNatClampNeg).toInt64)) (fun r_22 => m_Turtles_draw_b283b n g (m_Turtles_draw_b173b n g f) i a v1 v2 v3 v4 v5 v10 v11 r_22))))))
set_option maxHeartbeats 4000000 in
set_option maxRecDepth 100000 in
theorem lb_Turtles_draw_173b (l : Launch) (dC : Nat → ClassId) (dI : Nat → Nat → Nat) (cI : ClassId) (adK adV adA u o g : Nat → Nat) (n : Nat) {p : Program} {e : Env} {s : State} {m : MethodId} {args : Array Value} {below : List Frame} {meth : Method} {c : Code} {A : Nat → Prop} (hx : p.tables.exec = Jvm.exec) (hb : c.code = b_Turtles_draw) (hml : c.maxLocals = 15) (hown : s.vm.findClass R_Turtles = some m.cls) (hts : ∀ w ∈ w_Turtles_draw, w.before args s = true) (hK : va_K (dC, dI) classes [(cI, .int)] s) (hE : tw_E adK adV adA A s s.heap) (hA : ∀ q : Nat, s.heap.size ≤ q → A q) (hr : meth.sig.returnType = none) (hlocks : meth.locks = false) {i2 : Nat → Int32} {a2 : Nat → Nat → Int32} {r2 : Int32} : ∀ (f : Nat) (i : Nat → Int32) (a : Nat → Nat → Int32) (v1 : Int32) (v2 : Int32) (v3 : Int32) (v4 : Int32) (v5 : Int32) (v10 : Int32) (v11 : Int32), m_Turtles_draw_b173b n g f i a v1 v2 v3 v4 v5 v10 v11 = some (i2, a2, r2) → ∀ (H : Heap) (locs : List Loc) (ls : Array Slot), va_P (dC, dI) classes (TW cI u o i a g) H → va_D A (TW cI u o i a g) → va_S A s.heap H locs → lv_has ls 15 [(0, .ref ((u 5))), (1, .int v1), (2, .int v2), (3, .int v3), (4, .int v4), (5, .int v5), (7, .ref ((u 32))), (8, .ref ((u 32))), (10, .int v10), (11, .int v11)] → W p l e ({ frames := 2, cells := 0, slots := 0, locals := 55 } : Room) s m args below meth c H locs 0 0 (MQ below (va_Qv xV (xB dC dI cI u o g i2 a2 A) A) args s 0 0 A) (F0 m 173 ls []) := by
  have htt : ∀ w ∈ tw_T, w.before _ s = true := fun w h => hts w (List.mem_cons_of_mem _ h)
  intro f
  induction f with
  | zero =>
    intro i a v1 v2 v3 v4 v5 v10 v11 hm
    rw [m_Turtles_draw_b173b] at hm
    cases hm
  | succ f ih =>
    intro i a v1 v2 v3 v4 v5 v10 v11 hm H locs ls hP hD hS hl
    rw [m_Turtles_draw_b173b] at hm
    refine lv_iload hx hb d_Turtles_draw_173 (lv_at hl 9 rfl) ?_
    refine lv_iload hx hb d_Turtles_draw_175 (lv_at hl 8 rfl) ?_
    refine lv_icmp_gt (tgt := 339) hx hb d_Turtles_draw_177 (by decide) (fun c_1 => ?_) (fun c_1 => ?_)
    · replace hm := if_t c_1 hm
      obtain ⟨e1i, e1a, e3⟩ := re3 hm
      obtain ⟨hP, hD⟩ := x_eq e1i e1a hP hD
      exact W.vret hx hb hr (fun t9 ht hW => ⟨⟨(), rfl, trivial, by rw [ht]; exact hP, hD⟩, hS.F ht⟩) hS.2.2 d_Turtles_draw_339
    · replace hm := if_f c_1 hm
      refine lv_aload hx hb d_Turtles_draw_180 (lv_at hl 6 rfl) ?_
      refine lv_iload hx hb d_Turtles_draw_182 (lv_at hl 4 rfl) ?_
      obtain ⟨h_2, hm⟩ := ck_some hm
      refine va_iald hx hb hK hP 34 0 twA_22 rfl h_2 d_Turtles_draw_184 ?_
      refine lv_aload hx hb d_Turtles_draw_185 (lv_at hl 6 rfl) ?_
      refine lv_iload hx hb d_Turtles_draw_187 (lv_at hl 4 rfl) ?_
      refine lv_iconst (v := 1) hx hb d_Turtles_draw_189 (by decide) ?_
      refine lv_iadd hx hb d_Turtles_draw_190 ?_
      obtain ⟨h_3, hm⟩ := ck_some hm
      refine va_iald hx hb hK hP 34 0 twA_22 rfl h_3 d_Turtles_draw_191 ?_
      refine lv_iload hx hb d_Turtles_draw_192 (lv_at hl 9 rfl) ?_
      obtain ⟨r_5, h_4, hm⟩ := ob0_some hm
      have hFc := x_free0 hS hA
      refine va_calli (va_runS (As := [.int (a 22 v4.toNatClampNeg), .int (a 22 (v4 + 1).toNatClampNeg), .int v11]) (rest := []) ⟨hx, hb, hml, hown, hts⟩ (x_Turtles_sideOf l H.size n h_4) (va_cwS 3 hts (tw_GS tw_cons cw_Turtles_sideOf lk_Turtles_97 st_Turtles_sideOf ini_Turtles) rfl rfl rfl hd_Turtles_sideOf ⟨Nat.le_of_ble_eq_true rfl, Nat.le_of_ble_eq_true rfl⟩) xpS0 rfl rfl hl.1 rfl (lv_room (Nat.le_of_ble_eq_true rfl)) d_Turtles_draw_194 ⟨Nat.le_of_ble_eq_true rfl, Nat.le_of_ble_eq_true rfl⟩) hS (fun q _ h => hFc q h) hFc (fun r9 u9 t9 H locs ht hvm e9 hB hz1 hk1 hS => ?_)
      have e9 : r_5 = r9 := e9
      subst e9
      replace hP := x_keep hP hk1
      clear hFc hk1 hz1 hvm hB ht
      refine lv_if_le (tgt := 224) hx hb d_Turtles_draw_197 (by decide) (fun c_6 => ?_) (fun c_6 => ?_)
      · replace hm := if_t c_6 hm
        refine lv_aload hx hb d_Turtles_draw_224 (lv_at hl 7 rfl) ?_
        refine lv_iload hx hb d_Turtles_draw_226 (lv_at hl 4 rfl) ?_
        obtain ⟨h_7, hm⟩ := ck_some hm
        refine va_iald hx hb hK hP 34 0 twA_22 rfl h_7 d_Turtles_draw_228 ?_
        refine lv_aload hx hb d_Turtles_draw_229 (lv_at hl 7 rfl) ?_
        refine lv_iload hx hb d_Turtles_draw_231 (lv_at hl 4 rfl) ?_
        refine lv_iconst (v := 1) hx hb d_Turtles_draw_233 (by decide) ?_
        refine lv_iadd hx hb d_Turtles_draw_234 ?_
        obtain ⟨h_8, hm⟩ := ck_some hm
        refine va_iald hx hb hK hP 34 0 twA_22 rfl h_8 d_Turtles_draw_235 ?_
        refine lv_iload hx hb d_Turtles_draw_236 (lv_at hl 9 rfl) ?_
        obtain ⟨r_10, h_9, hm⟩ := ob0_some hm
        have hFc := x_free0 hS hA
        refine va_calli (va_runS (As := [.int (a 22 v4.toNatClampNeg), .int (a 22 (v4 + 1).toNatClampNeg), .int v11]) (rest := []) ⟨hx, hb, hml, hown, hts⟩ (x_Turtles_sideOf l H.size n h_9) (va_cwS 3 hts (tw_GS tw_cons cw_Turtles_sideOf lk_Turtles_97 st_Turtles_sideOf ini_Turtles) rfl rfl rfl hd_Turtles_sideOf ⟨Nat.le_of_ble_eq_true rfl, Nat.le_of_ble_eq_true rfl⟩) xpS0 rfl rfl hl.1 rfl (lv_room (Nat.le_of_ble_eq_true rfl)) d_Turtles_draw_238 ⟨Nat.le_of_ble_eq_true rfl, Nat.le_of_ble_eq_true rfl⟩) hS (fun q _ h => hFc q h) hFc (fun r9 u9 t9 H locs ht hvm e9 hB hz1 hk1 hS => ?_)
        have e9 : r_10 = r9 := e9
        subst e9
        replace hP := x_keep hP hk1
        clear hFc hk1 hz1 hvm hB ht
        refine lv_if_ge (tgt := 268) hx hb d_Turtles_draw_241 (by decide) (fun c_11 => ?_) (fun c_11 => ?_)
        · replace hm := if_t c_11 hm
          refine lv_aload_n hx hb d_Turtles_draw_268 rfl (lv_at hl 0 rfl) ?_
          refine lv_iload hx hb d_Turtles_draw_269 (lv_at hl 4 rfl) ?_
          refine va_gets hx hb (hE.2 2 (by decide)).1 hS hown (htt _ lk_Turtles_101) (fun _ h9 => h9) d_Turtles_draw_271 ?_
          refine lv_iload_n hx hb d_Turtles_draw_274 rfl (lv_at hl 1 rfl) ?_
          obtain ⟨h_12, hm⟩ := ck_some hm
          refine va_ti (N := 6) (v := .int (tw_st 2 v1.toNatClampNeg)) hx hb (hE.2 2 (by decide)).2 hS h_12 rfl d_Turtles_draw_275 ?_
          refine lv_iload hx hb d_Turtles_draw_276 (lv_at hl 9 rfl) ?_
          obtain ⟨r_14, h_13, hm⟩ := ob0_some hm
          have hFc := x_free0 hS hA
          refine va_calll (va_runV (As := [.int v4, .int (tw_st 2 v1.toNatClampNeg), .int v11]) (rest := []) ⟨hx, hb, hml, hown, hts⟩ (x_Turtles_crossing l dC dI cI adK adV adA u o g H.size n h_13) (cwV 3 hts (tw_GV tw_cons cw_Turtles_crossing lk_Turtles_104 in_Turtles_crossing sel_Turtles_crossing ini_Turtles) rfl rfl rfl ⟨rfl, hd_Turtles_crossing⟩ ⟨Nat.le_of_ble_eq_true rfl, Nat.le_of_ble_eq_true rfl⟩) (xpVr hK hP hS hE hFc xo_5 rfl) rfl rfl hl.1 rfl (lv_room (Nat.le_of_ble_eq_true rfl)) d_Turtles_draw_278 ⟨Nat.le_of_ble_eq_true rfl, Nat.le_of_ble_eq_true rfl⟩) hS (fun q _ h => hFc q h) hFc (fun r9 u9 t9 H locs ht hvm e9 hB hz1 hk1 hS => ?_)
          have e9 : r_14 = r9 := e9
          subst e9
          replace hP := x_keep hP hk1
          clear hFc hk1 hz1 hvm hB ht
          refine lv_lstore (lv' := [(12, .long r_14), (0, .ref ((u 5))), (1, .int v1), (2, .int v2), (3, .int v3), (4, .int v4), (5, .int v5), (7, .ref ((u 32))), (8, .ref ((u 32))), (10, .int v10), (11, .int v11)]) hx hb d_Turtles_draw_281 hl (by decide) rfl (fun ls hl => ?_)
          exact lb_Turtles_draw_283b l dC dI cI adK adV adA u o g n hx hb hml hown hts hK hE hA hr hlocks (m_Turtles_draw_b173b n g f) ih _ _ _ _ _ _ _ _ _ _ hm _ _ _ hP hD hS (lv_sub hl [1, 2, 3, 4, 5, 6, 7, 8, 9, 10, 0] rfl)
        · replace hm := if_f c_11 hm
          refine lv_aload hx hb d_Turtles_draw_244 (lv_at hl 7 rfl) ?_
          refine lv_iload hx hb d_Turtles_draw_246 (lv_at hl 5 rfl) ?_
          obtain ⟨h_15, hm⟩ := ck_some hm
          refine va_iald hx hb hK hP 34 0 twA_22 rfl h_15 d_Turtles_draw_248 ?_
          refine lv_iconst (v := 1) hx hb d_Turtles_draw_249 (by decide) ?_
          refine lv_iadd hx hb d_Turtles_draw_250 ?_
          refine lv_i2l hx hb d_Turtles_draw_251 rfl ?_
          refine lv_aload hx hb d_Turtles_draw_252 (lv_at hl 7 rfl) ?_
          refine lv_iload hx hb d_Turtles_draw_254 (lv_at hl 5 rfl) ?_
          refine lv_iconst (v := 1) hx hb d_Turtles_draw_256 (by decide) ?_
          refine lv_iadd hx hb d_Turtles_draw_257 ?_
          obtain ⟨h_16, hm⟩ := ck_some hm
          refine va_iald hx hb hK hP 34 0 twA_22 rfl h_16 d_Turtles_draw_258 ?_
          refine lv_i2l hx hb d_Turtles_draw_259 rfl ?_
          obtain ⟨r_18, h_17, hm⟩ := ob0_some hm
          have hFc := x_free0 hS hA
          refine va_calll (va_runS (As := [.long (((a 22 v5.toNatClampNeg) + 1).toInt64), .long ((a 22 (v5 + 1).toNatClampNeg).toInt64)]) (rest := []) ⟨hx, hb, hml, hown, hts⟩ (x_Turtles_floorHalf l H.size n h_17) (va_cwS 2 hts (tw_GS tw_cons cw_Turtles_floorHalf lk_Turtles_84 st_Turtles_floorHalf ini_Turtles) rfl rfl rfl hd_Turtles_floorHalf ⟨Nat.le_of_ble_eq_true rfl, Nat.le_of_ble_eq_true rfl⟩) xpS0 rfl rfl hl.1 rfl (lv_room (Nat.le_of_ble_eq_true rfl)) d_Turtles_draw_260 ⟨Nat.le_of_ble_eq_true rfl, Nat.le_of_ble_eq_true rfl⟩) hS (fun q _ h => hFc q h) hFc (fun r9 u9 t9 H locs ht hvm e9 hB hz1 hk1 hS => ?_)
          have e9 : r_18 = r9 := e9
          subst e9
          replace hP := x_keep hP hk1
          clear hFc hk1 hz1 hvm hB ht
          refine lv_lstore (lv' := [(12, .long r_18), (0, .ref ((u 5))), (1, .int v1), (2, .int v2), (3, .int v3), (4, .int v4), (5, .int v5), (7, .ref ((u 32))), (8, .ref ((u 32))), (10, .int v10), (11, .int v11)]) hx hb d_Turtles_draw_263 hl (by decide) rfl (fun ls hl => ?_)
          refine lv_goto (tgt := 283) hx hb d_Turtles_draw_265 (by decide) ?_
          exact lb_Turtles_draw_283b l dC dI cI adK adV adA u o g n hx hb hml hown hts hK hE hA hr hlocks (m_Turtles_draw_b173b n g f) ih _ _ _ _ _ _ _ _ _ _ hm _ _ _ hP hD hS (lv_sub hl [1, 2, 3, 4, 5, 6, 7, 8, 9, 10, 0] rfl)
      · replace hm := if_f c_6 hm
        refine lv_aload hx hb d_Turtles_draw_200 (lv_at hl 6 rfl) ?_
        refine lv_iload hx hb d_Turtles_draw_202 (lv_at hl 5 rfl) ?_
        obtain ⟨h_19, hm⟩ := ck_some hm
        refine va_iald hx hb hK hP 34 0 twA_22 rfl h_19 d_Turtles_draw_204 ?_
        refine lv_iconst (v := 1) hx hb d_Turtles_draw_205 (by decide) ?_
        refine lv_iadd hx hb d_Turtles_draw_206 ?_
        refine lv_i2l hx hb d_Turtles_draw_207 rfl ?_
        refine lv_aload hx hb d_Turtles_draw_208 (lv_at hl 6 rfl) ?_
        refine lv_iload hx hb d_Turtles_draw_210 (lv_at hl 5 rfl) ?_
        refine lv_iconst (v := 1) hx hb d_Turtles_draw_212 (by decide) ?_
        refine lv_iadd hx hb d_Turtles_draw_213 ?_
        obtain ⟨h_20, hm⟩ := ck_some hm
        refine va_iald hx hb hK hP 34 0 twA_22 rfl h_20 d_Turtles_draw_214 ?_
        refine lv_i2l hx hb d_Turtles_draw_215 rfl ?_
        obtain ⟨r_22, h_21, hm⟩ := ob0_some hm
        have hFc := x_free0 hS hA
        refine va_calll (va_runS (As := [.long (((a 22 v5.toNatClampNeg) + 1).toInt64), .long ((a 22 (v5 + 1).toNatClampNeg).toInt64)]) (rest := []) ⟨hx, hb, hml, hown, hts⟩ (x_Turtles_floorHalf l H.size n h_21) (va_cwS 2 hts (tw_GS tw_cons cw_Turtles_floorHalf lk_Turtles_84 st_Turtles_floorHalf ini_Turtles) rfl rfl rfl hd_Turtles_floorHalf ⟨Nat.le_of_ble_eq_true rfl, Nat.le_of_ble_eq_true rfl⟩) xpS0 rfl rfl hl.1 rfl (lv_room (Nat.le_of_ble_eq_true rfl)) d_Turtles_draw_216 ⟨Nat.le_of_ble_eq_true rfl, Nat.le_of_ble_eq_true rfl⟩) hS (fun q _ h => hFc q h) hFc (fun r9 u9 t9 H locs ht hvm e9 hB hz1 hk1 hS => ?_)
        have e9 : r_22 = r9 := e9
        subst e9
        replace hP := x_keep hP hk1
        clear hFc hk1 hz1 hvm hB ht
        refine lv_lstore (lv' := [(12, .long r_22), (0, .ref ((u 5))), (1, .int v1), (2, .int v2), (3, .int v3), (4, .int v4), (5, .int v5), (7, .ref ((u 32))), (8, .ref ((u 32))), (10, .int v10), (11, .int v11)]) hx hb d_Turtles_draw_219 hl (by decide) rfl (fun ls hl => ?_)
        refine lv_goto (tgt := 283) hx hb d_Turtles_draw_221 (by decide) ?_
        exact lb_Turtles_draw_283b l dC dI cI adK adV adA u o g n hx hb hml hown hts hK hE hA hr hlocks (m_Turtles_draw_b173b n g f) ih _ _ _ _ _ _ _ _ _ _ hm _ _ _ hP hD hS (lv_sub hl [1, 2, 3, 4, 5, 6, 7, 8, 9, 10, 0] rfl)
def m_Turtles_draw_b111b (n : Nat) (g : Nat → Nat) (i : Nat → Int32) (a : Nat → Nat → Int32) (v1 : Int32) (v2 : Int32) (v3 : Int32) (v4 : Int32) (v5 : Int32) : Option ((Nat → Int32) × (Nat → Nat → Int32) × Int32) := ck v4 4 (ck ((v4 + 1)) 4 (ob0 (m_Turtles_floorHalf n (((a 22 v4.toNatClampNeg) + 1).toInt64) ((a 22 (v4 + 1).toNatClampNeg).toInt64)) (fun r_4 => ob0 (m_Math_max2 n r_4 (-32 : Int64)) (fun r_6 => ck v4 4 (ck ((v4 + 1)) 4 (ob0 (m_Turtles_floorHalf n (((a 22 v4.toNatClampNeg) + 1).toInt64) ((a 22 (v4 + 1).toNatClampNeg).toInt64)) (fun r_10 => ob0 (m_Math_min2 n r_10 (31 : Int64)) (fun r_12 => m_Turtles_draw_b173b n g n i a v1 v2 v3 v4 v5 r_12.toInt32 r_6.toInt32))))))))
set_option maxHeartbeats 4000000 in
set_option maxRecDepth 100000 in
theorem lb_Turtles_draw_111b (l : Launch) (dC : Nat → ClassId) (dI : Nat → Nat → Nat) (cI : ClassId) (adK adV adA u o g : Nat → Nat) (n : Nat) {p : Program} {e : Env} {s : State} {m : MethodId} {args : Array Value} {below : List Frame} {meth : Method} {c : Code} {A : Nat → Prop} (hx : p.tables.exec = Jvm.exec) (hb : c.code = b_Turtles_draw) (hml : c.maxLocals = 15) (hown : s.vm.findClass R_Turtles = some m.cls) (hts : ∀ w ∈ w_Turtles_draw, w.before args s = true) (hK : va_K (dC, dI) classes [(cI, .int)] s) (hE : tw_E adK adV adA A s s.heap) (hA : ∀ q : Nat, s.heap.size ≤ q → A q) (hr : meth.sig.returnType = none) (hlocks : meth.locks = false) {i2 : Nat → Int32} {a2 : Nat → Nat → Int32} {r2 : Int32} (i : Nat → Int32) (a : Nat → Nat → Int32) (v1 : Int32) (v2 : Int32) (v3 : Int32) (v4 : Int32) (v5 : Int32) (hm : m_Turtles_draw_b111b n g i a v1 v2 v3 v4 v5 = some (i2, a2, r2)) : ∀ (H : Heap) (locs : List Loc) (ls : Array Slot), va_P (dC, dI) classes (TW cI u o i a g) H → va_D A (TW cI u o i a g) → va_S A s.heap H locs → lv_has ls 15 [(0, .ref ((u 5))), (1, .int v1), (2, .int v2), (3, .int v3), (4, .int v4), (5, .int v5), (7, .ref ((u 32)))] → W p l e ({ frames := 2, cells := 0, slots := 0, locals := 55 } : Room) s m args below meth c H locs 0 0 (MQ below (va_Qv xV (xB dC dI cI u o g i2 a2 A) A) args s 0 0 A) (F0 m 111 ls [.ref ((u 32))]) := by
  have htt : ∀ w ∈ tw_T, w.before _ s = true := fun w h => hts w (List.mem_cons_of_mem _ h)
  intro H locs ls hP hD hS hl
  rw [m_Turtles_draw_b111b] at hm
  refine lv_astore (lv' := [(8, .ref ((u 32))), (0, .ref ((u 5))), (1, .int v1), (2, .int v2), (3, .int v3), (4, .int v4), (5, .int v5), (7, .ref ((u 32)))]) hx hb d_Turtles_draw_111 hl (by decide) rfl (fun ls hl => ?_)
  refine lv_aload hx hb d_Turtles_draw_113 (lv_at hl 7 rfl) ?_
  refine lv_iload hx hb d_Turtles_draw_115 (lv_at hl 5 rfl) ?_
  obtain ⟨h_1, hm⟩ := ck_some hm
  refine va_iald hx hb hK hP 34 0 twA_22 rfl h_1 d_Turtles_draw_117 ?_
  refine lv_iconst (v := 1) hx hb d_Turtles_draw_118 (by decide) ?_
  refine lv_iadd hx hb d_Turtles_draw_119 ?_
  refine lv_i2l hx hb d_Turtles_draw_120 rfl ?_
  refine lv_aload hx hb d_Turtles_draw_121 (lv_at hl 7 rfl) ?_
  refine lv_iload hx hb d_Turtles_draw_123 (lv_at hl 5 rfl) ?_
  refine lv_iconst (v := 1) hx hb d_Turtles_draw_125 (by decide) ?_
  refine lv_iadd hx hb d_Turtles_draw_126 ?_
  obtain ⟨h_2, hm⟩ := ck_some hm
  refine va_iald hx hb hK hP 34 0 twA_22 rfl h_2 d_Turtles_draw_127 ?_
  refine lv_i2l hx hb d_Turtles_draw_128 rfl ?_
  obtain ⟨r_4, h_3, hm⟩ := ob0_some hm
  have hFc := x_free0 hS hA
  refine va_calll (va_runS (As := [.long (((a 22 v4.toNatClampNeg) + 1).toInt64), .long ((a 22 (v4 + 1).toNatClampNeg).toInt64)]) (rest := []) ⟨hx, hb, hml, hown, hts⟩ (x_Turtles_floorHalf l H.size n h_3) (va_cwS 2 hts (tw_GS tw_cons cw_Turtles_floorHalf lk_Turtles_84 st_Turtles_floorHalf ini_Turtles) rfl rfl rfl hd_Turtles_floorHalf ⟨Nat.le_of_ble_eq_true rfl, Nat.le_of_ble_eq_true rfl⟩) xpS0 rfl rfl hl.1 rfl (lv_room (Nat.le_of_ble_eq_true rfl)) d_Turtles_draw_129 ⟨Nat.le_of_ble_eq_true rfl, Nat.le_of_ble_eq_true rfl⟩) hS (fun q _ h => hFc q h) hFc (fun r9 u9 t9 H locs ht hvm e9 hB hz1 hk1 hS => ?_)
  have e9 : r_4 = r9 := e9
  subst e9
  replace hP := x_keep hP hk1
  clear hFc hk1 hz1 hvm hB ht
  refine lv_ldc2 (v := (-32)) hx hb hown (htt _ lk_Turtles_87) d_Turtles_draw_132 ?_
  obtain ⟨r_6, h_5, hm⟩ := ob0_some hm
  have hFc := x_free0 hS hA
  refine va_calll (va_runS (As := [.long r_4, .long ((-32))]) (rest := []) ⟨hx, hb, hml, hown, hts⟩ (x_Math_max2 l H.size n h_5) (va_cwS 2 hts (tw_GS tw_cons cw_Math_max2 lk_Turtles_89 st_Math_max2 ini_Math) rfl rfl rfl hd_Math_max2 ⟨Nat.le_of_ble_eq_true rfl, Nat.le_of_ble_eq_true rfl⟩) xpS0 rfl rfl hl.1 rfl (lv_room (Nat.le_of_ble_eq_true rfl)) d_Turtles_draw_135 ⟨Nat.le_of_ble_eq_true rfl, Nat.le_of_ble_eq_true rfl⟩) hS (fun q _ h => hFc q h) hFc (fun r9 u9 t9 H locs ht hvm e9 hB hz1 hk1 hS => ?_)
  have e9 : r_6 = r9 := e9
  subst e9
  replace hP := x_keep hP hk1
  clear hFc hk1 hz1 hvm hB ht
  refine lv_l2i hx hb d_Turtles_draw_138 rfl ?_
  refine lv_istore (lv' := [(9, .int r_6.toInt32), (8, .ref ((u 32))), (0, .ref ((u 5))), (1, .int v1), (2, .int v2), (3, .int v3), (4, .int v4), (5, .int v5), (7, .ref ((u 32)))]) hx hb d_Turtles_draw_139 hl (by decide) rfl (fun ls hl => ?_)
  refine lv_aload hx hb d_Turtles_draw_141 (lv_at hl 1 rfl) ?_
  refine lv_iload hx hb d_Turtles_draw_143 (lv_at hl 6 rfl) ?_
  obtain ⟨h_7, hm⟩ := ck_some hm
  refine va_iald hx hb hK hP 34 0 twA_22 rfl h_7 d_Turtles_draw_145 ?_
  refine lv_iconst (v := 1) hx hb d_Turtles_draw_146 (by decide) ?_
  refine lv_iadd hx hb d_Turtles_draw_147 ?_
  refine lv_i2l hx hb d_Turtles_draw_148 rfl ?_
  refine lv_aload hx hb d_Turtles_draw_149 (lv_at hl 1 rfl) ?_
  refine lv_iload hx hb d_Turtles_draw_151 (lv_at hl 6 rfl) ?_
  refine lv_iconst (v := 1) hx hb d_Turtles_draw_153 (by decide) ?_
  refine lv_iadd hx hb d_Turtles_draw_154 ?_
  obtain ⟨h_8, hm⟩ := ck_some hm
  refine va_iald hx hb hK hP 34 0 twA_22 rfl h_8 d_Turtles_draw_155 ?_
  refine lv_i2l hx hb d_Turtles_draw_156 rfl ?_
  obtain ⟨r_10, h_9, hm⟩ := ob0_some hm
  have hFc := x_free0 hS hA
  refine va_calll (va_runS (As := [.long (((a 22 v4.toNatClampNeg) + 1).toInt64), .long ((a 22 (v4 + 1).toNatClampNeg).toInt64)]) (rest := []) ⟨hx, hb, hml, hown, hts⟩ (x_Turtles_floorHalf l H.size n h_9) (va_cwS 2 hts (tw_GS tw_cons cw_Turtles_floorHalf lk_Turtles_84 st_Turtles_floorHalf ini_Turtles) rfl rfl rfl hd_Turtles_floorHalf ⟨Nat.le_of_ble_eq_true rfl, Nat.le_of_ble_eq_true rfl⟩) xpS0 rfl rfl hl.1 rfl (lv_room (Nat.le_of_ble_eq_true rfl)) d_Turtles_draw_157 ⟨Nat.le_of_ble_eq_true rfl, Nat.le_of_ble_eq_true rfl⟩) hS (fun q _ h => hFc q h) hFc (fun r9 u9 t9 H locs ht hvm e9 hB hz1 hk1 hS => ?_)
  have e9 : r_10 = r9 := e9
  subst e9
  replace hP := x_keep hP hk1
  clear hFc hk1 hz1 hvm hB ht
  refine lv_ldc2 (v := 31) hx hb hown (htt _ lk_Turtles_92) d_Turtles_draw_160 ?_
  obtain ⟨r_12, h_11, hm⟩ := ob0_some hm
  have hFc := x_free0 hS hA
  refine va_calll (va_runS (As := [.long r_10, .long 31]) (rest := []) ⟨hx, hb, hml, hown, hts⟩ (x_Math_min2 l H.size n h_11) (va_cwS 2 hts (tw_GS tw_cons cw_Math_min2 lk_Turtles_94 st_Math_min2 ini_Math) rfl rfl rfl hd_Math_min2 ⟨Nat.le_of_ble_eq_true rfl, Nat.le_of_ble_eq_true rfl⟩) xpS0 rfl rfl hl.1 rfl (lv_room (Nat.le_of_ble_eq_true rfl)) d_Turtles_draw_163 ⟨Nat.le_of_ble_eq_true rfl, Nat.le_of_ble_eq_true rfl⟩) hS (fun q _ h => hFc q h) hFc (fun r9 u9 t9 H locs ht hvm e9 hB hz1 hk1 hS => ?_)
  have e9 : r_12 = r9 := e9
  subst e9
  replace hP := x_keep hP hk1
  clear hFc hk1 hz1 hvm hB ht
  refine lv_l2i hx hb d_Turtles_draw_166 rfl ?_
  refine lv_istore (lv' := [(10, .int r_12.toInt32), (9, .int r_6.toInt32), (8, .ref ((u 32))), (0, .ref ((u 5))), (1, .int v1), (2, .int v2), (3, .int v3), (4, .int v4), (5, .int v5), (7, .ref ((u 32)))]) hx hb d_Turtles_draw_167 hl (by decide) rfl (fun ls hl => ?_)
  refine lv_iload hx hb d_Turtles_draw_169 (lv_at hl 1 rfl) ?_
  refine lv_istore (lv' := [(11, .int r_6.toInt32), (10, .int r_12.toInt32), (9, .int r_6.toInt32), (8, .ref ((u 32))), (0, .ref ((u 5))), (1, .int v1), (2, .int v2), (3, .int v3), (4, .int v4), (5, .int v5), (7, .ref ((u 32)))]) hx hb d_Turtles_draw_171 hl (by decide) rfl (fun ls hl => ?_)
  exact lb_Turtles_draw_173b l dC dI cI adK adV adA u o g n hx hb hml hown hts hK hE hA hr hlocks n _ _ _ _ _ _ _ _ _ hm _ _ _ hP hD hS (lv_sub hl [4, 5, 6, 7, 8, 9, 10, 3, 1, 0] rfl)
def m_Turtles_draw_b333c (n : Nat) (g : Nat → Nat) (rc_173c : (Nat → Int32) → (Nat → Nat → Int32) → Int32 → Int32 → Int32 → Int32 → Int32 → Int32 → Int32 → Option ((Nat → Int32) × (Nat → Nat → Int32) × Int32)) (i : Nat → Int32) (a : Nat → Nat → Int32) (v1 : Int32) (v2 : Int32) (v3 : Int32) (v4 : Int32) (v5 : Int32) (v10 : Int32) (v11 : Int32) : Option ((Nat → Int32) × (Nat → Nat → Int32) × Int32) := ob1 (v11 + 1 : Int32) (fun x_1 => rc_173c i a v1 v2 v3 v4 v5 v10 x_1)
set_option maxHeartbeats 4000000 in
set_option maxRecDepth 100000 in
theorem lb_Turtles_draw_333c (l : Launch) (dC : Nat → ClassId) (dI : Nat → Nat → Nat) (cI : ClassId) (adK adV adA u o g : Nat → Nat) (n : Nat) {p : Program} {e : Env} {s : State} {m : MethodId} {args : Array Value} {below : List Frame} {meth : Method} {c : Code} {A : Nat → Prop} (hx : p.tables.exec = Jvm.exec) (hb : c.code = b_Turtles_draw) (hml : c.maxLocals = 15) (hown : s.vm.findClass R_Turtles = some m.cls) (hts : ∀ w ∈ w_Turtles_draw, w.before args s = true) (hK : va_K (dC, dI) classes [(cI, .int)] s) (hE : tw_E adK adV adA A s s.heap) (hA : ∀ q : Nat, s.heap.size ≤ q → A q) (hr : meth.sig.returnType = none) (hlocks : meth.locks = false) {i2 : Nat → Int32} {a2 : Nat → Nat → Int32} {r2 : Int32} (rc_173c : (Nat → Int32) → (Nat → Nat → Int32) → Int32 → Int32 → Int32 → Int32 → Int32 → Int32 → Int32 → Option ((Nat → Int32) × (Nat → Nat → Int32) × Int32)) (Hrc_173c : ∀ (i : Nat → Int32) (a : Nat → Nat → Int32) (v1 : Int32) (v2 : Int32) (v3 : Int32) (v4 : Int32) (v5 : Int32) (v10 : Int32) (v11 : Int32), rc_173c i a v1 v2 v3 v4 v5 v10 v11 = some (i2, a2, r2) → ∀ (H : Heap) (locs : List Loc) (ls : Array Slot), va_P (dC, dI) classes (TW cI u o i a g) H → va_D A (TW cI u o i a g) → va_S A s.heap H locs → lv_has ls 15 [(0, .ref ((u 5))), (1, .int v1), (2, .int v2), (3, .int v3), (4, .int v4), (5, .int v5), (7, .ref ((u 32))), (8, .ref ((u 33))), (10, .int v10), (11, .int v11)] → W p l e ({ frames := 2, cells := 0, slots := 0, locals := 55 } : Room) s m args below meth c H locs 0 0 (MQ below (va_Qv xV (xB dC dI cI u o g i2 a2 A) A) args s 0 0 A) (F0 m 173 ls [])) (i : Nat → Int32) (a : Nat → Nat → Int32) (v1 : Int32) (v2 : Int32) (v3 : Int32) (v4 : Int32) (v5 : Int32) (v10 : Int32) (v11 : Int32) (hm : m_Turtles_draw_b333c n g rc_173c i a v1 v2 v3 v4 v5 v10 v11 = some (i2, a2, r2)) : ∀ (H : Heap) (locs : List Loc) (ls : Array Slot), va_P (dC, dI) classes (TW cI u o i a g) H → va_D A (TW cI u o i a g) → va_S A s.heap H locs → lv_has ls 15 [(0, .ref ((u 5))), (1, .int v1), (2, .int v2), (3, .int v3), (4, .int v4), (5, .int v5), (7, .ref ((u 32))), (8, .ref ((u 33))), (10, .int v10), (11, .int v11)] → W p l e ({ frames := 2, cells := 0, slots := 0, locals := 55 } : Room) s m args below meth c H locs 0 0 (MQ below (va_Qv xV (xB dC dI cI u o g i2 a2 A) A) args s 0 0 A) (F0 m 333 ls []) := by
  have htt : ∀ w ∈ tw_T, w.before _ s = true := fun w h => hts w (List.mem_cons_of_mem _ h)
  intro H locs ls hP hD hS hl
  rw [m_Turtles_draw_b333c] at hm
  obtain ⟨x_1, ex_1⟩ : ∃ y9 : Int32, y9 = v11 + 1 := ⟨_, rfl⟩
  replace hm := ob1_at ex_1 hm
  refine lv_iinc (v := x_1) (lv' := [(11, .int x_1), (0, .ref ((u 5))), (1, .int v1), (2, .int v2), (3, .int v3), (4, .int v4), (5, .int v5), (7, .ref ((u 32))), (8, .ref ((u 33))), (10, .int v10)]) hx hb d_Turtles_draw_333 hl (k := 9) rfl (by rw [ex_1]; rfl) (by decide) rfl (fun ls hl => ?_)
  refine lv_goto (tgt := 173) hx hb d_Turtles_draw_336 (by decide) ?_
  exact Hrc_173c _ _ _ _ _ _ _ _ _ hm _ _ _ hP hD hS (lv_sub hl [1, 2, 3, 4, 5, 6, 7, 8, 9, 0] rfl)
def m_Turtles_draw_b331c (n : Nat) (g : Nat → Nat) (rc_173c : (Nat → Int32) → (Nat → Nat → Int32) → Int32 → Int32 → Int32 → Int32 → Int32 → Int32 → Int32 → Option ((Nat → Int32) × (Nat → Nat → Int32) × Int32)) (i : Nat → Int32) (a : Nat → Nat → Int32) (v1 : Int32) (v2 : Int32) (v3 : Int32) (v4 : Int32) (v5 : Int32) (v10 : Int32) (v11 : Int32) (s0 : Int32) : Option ((Nat → Int32) × (Nat → Nat → Int32) × Int32) := ck s0 4096 (ob1 (sv a 21 s0.toNatClampNeg v2 : Nat → Nat → Int32) (fun a_2 => m_Turtles_draw_b333c n g rc_173c i a_2 v1 v2 v3 v4 v5 v10 v11))
set_option maxHeartbeats 4000000 in
set_option maxRecDepth 100000 in
theorem lb_Turtles_draw_331c (l : Launch) (dC : Nat → ClassId) (dI : Nat → Nat → Nat) (cI : ClassId) (adK adV adA u o g : Nat → Nat) (n : Nat) {p : Program} {e : Env} {s : State} {m : MethodId} {args : Array Value} {below : List Frame} {meth : Method} {c : Code} {A : Nat → Prop} (hx : p.tables.exec = Jvm.exec) (hb : c.code = b_Turtles_draw) (hml : c.maxLocals = 15) (hown : s.vm.findClass R_Turtles = some m.cls) (hts : ∀ w ∈ w_Turtles_draw, w.before args s = true) (hK : va_K (dC, dI) classes [(cI, .int)] s) (hE : tw_E adK adV adA A s s.heap) (hA : ∀ q : Nat, s.heap.size ≤ q → A q) (hr : meth.sig.returnType = none) (hlocks : meth.locks = false) {i2 : Nat → Int32} {a2 : Nat → Nat → Int32} {r2 : Int32} (rc_173c : (Nat → Int32) → (Nat → Nat → Int32) → Int32 → Int32 → Int32 → Int32 → Int32 → Int32 → Int32 → Option ((Nat → Int32) × (Nat → Nat → Int32) × Int32)) (Hrc_173c : ∀ (i : Nat → Int32) (a : Nat → Nat → Int32) (v1 : Int32) (v2 : Int32) (v3 : Int32) (v4 : Int32) (v5 : Int32) (v10 : Int32) (v11 : Int32), rc_173c i a v1 v2 v3 v4 v5 v10 v11 = some (i2, a2, r2) → ∀ (H : Heap) (locs : List Loc) (ls : Array Slot), va_P (dC, dI) classes (TW cI u o i a g) H → va_D A (TW cI u o i a g) → va_S A s.heap H locs → lv_has ls 15 [(0, .ref ((u 5))), (1, .int v1), (2, .int v2), (3, .int v3), (4, .int v4), (5, .int v5), (7, .ref ((u 32))), (8, .ref ((u 33))), (10, .int v10), (11, .int v11)] → W p l e ({ frames := 2, cells := 0, slots := 0, locals := 55 } : Room) s m args below meth c H locs 0 0 (MQ below (va_Qv xV (xB dC dI cI u o g i2 a2 A) A) args s 0 0 A) (F0 m 173 ls [])) (i : Nat → Int32) (a : Nat → Nat → Int32) (v1 : Int32) (v2 : Int32) (v3 : Int32) (v4 : Int32) (v5 : Int32) (v10 : Int32) (v11 : Int32) (s0 : Int32) (hm : m_Turtles_draw_b331c n g rc_173c i a v1 v2 v3 v4 v5 v10 v11 s0 = some (i2, a2, r2)) : ∀ (H : Heap) (locs : List Loc) (ls : Array Slot), va_P (dC, dI) classes (TW cI u o i a g) H → va_D A (TW cI u o i a g) → va_S A s.heap H locs → lv_has ls 15 [(0, .ref ((u 5))), (1, .int v1), (2, .int v2), (3, .int v3), (4, .int v4), (5, .int v5), (7, .ref ((u 32))), (8, .ref ((u 33))), (10, .int v10), (11, .int v11)] → W p l e ({ frames := 2, cells := 0, slots := 0, locals := 55 } : Room) s m args below meth c H locs 0 0 (MQ below (va_Qv xV (xB dC dI cI u o g i2 a2 A) A) args s 0 0 A) (F0 m 331 ls [.int s0, .ref ((u 31))]) := by
  have htt : ∀ w ∈ tw_T, w.before _ s = true := fun w h => hts w (List.mem_cons_of_mem _ h)
  intro H locs ls hP hD hS hl
  rw [m_Turtles_draw_b331c] at hm
  refine lv_iload_n hx hb d_Turtles_draw_331 rfl (lv_at hl 2 rfl) ?_
  obtain ⟨h_1, hm⟩ := ck_some hm
  refine va_iast hx hb hK hP hD hS 33 0 twA_21 rfl h_1 d_Turtles_draw_332 (fun H locs hP hD hS => ?_)
  obtain ⟨a_2, ea_2⟩ : ∃ y9 : Nat → Nat → Int32, y9 = sv a 21 s0.toNatClampNeg v2 := ⟨_, rfl⟩
  replace hm := ob1_at ea_2 hm
  obtain ⟨hP, hD⟩ := xv_21 ea_2 hP hD
  exact lb_Turtles_draw_333c l dC dI cI adK adV adA u o g n hx hb hml hown hts hK hE hA hr hlocks rc_173c Hrc_173c _ _ _ _ _ _ _ _ _ hm _ _ _ hP hD hS (lv_sub hl [0, 1, 2, 3, 4, 5, 6, 7, 8, 9] rfl)
def m_Turtles_draw_b283c (n : Nat) (g : Nat → Nat) (rc_173c : (Nat → Int32) → (Nat → Nat → Int32) → Int32 → Int32 → Int32 → Int32 → Int32 → Int32 → Int32 → Option ((Nat → Int32) × (Nat → Nat → Int32) × Int32)) (i : Nat → Int32) (a : Nat → Nat → Int32) (v1 : Int32) (v2 : Int32) (v3 : Int32) (v4 : Int32) (v5 : Int32) (v10 : Int32) (v11 : Int32) (v12 : Int64) : Option ((Nat → Int32) × (Nat → Nat → Int32) × Int32) := if ((lg_cmp v12 ((-32)))) < ((0 : Int32)) then m_Turtles_draw_b333c n g rc_173c i a v1 v2 v3 v4 v5 v10 v11 else if ((0 : Int32)) ≤ ((lg_cmp v12 32)) then m_Turtles_draw_b333c n g rc_173c i a v1 v2 v3 v4 v5 v10 v11 else if v3 = ((0 : Int32)) then ob0 (m_Turtles_dotAt n v12.toInt32 v11) (fun r_5 => m_Turtles_draw_b331c n g rc_173c i a v1 v2 v3 v4 v5 v10 v11 r_5) else ob0 (m_Turtles_dotAt n v11 v12.toInt32) (fun r_7 => m_Turtles_draw_b331c n g rc_173c i a v1 v2 v3 v4 v5 v10 v11 r_7)
set_option maxHeartbeats 4000000 in
set_option maxRecDepth 100000 in
theorem lb_Turtles_draw_283c (l : Launch) (dC : Nat → ClassId) (dI : Nat → Nat → Nat) (cI : ClassId) (adK adV adA u o g : Nat → Nat) (n : Nat) {p : Program} {e : Env} {s : State} {m : MethodId} {args : Array Value} {below : List Frame} {meth : Method} {c : Code} {A : Nat → Prop} (hx : p.tables.exec = Jvm.exec) (hb : c.code = b_Turtles_draw) (hml : c.maxLocals = 15) (hown : s.vm.findClass R_Turtles = some m.cls) (hts : ∀ w ∈ w_Turtles_draw, w.before args s = true) (hK : va_K (dC, dI) classes [(cI, .int)] s) (hE : tw_E adK adV adA A s s.heap) (hA : ∀ q : Nat, s.heap.size ≤ q → A q) (hr : meth.sig.returnType = none) (hlocks : meth.locks = false) {i2 : Nat → Int32} {a2 : Nat → Nat → Int32} {r2 : Int32} (rc_173c : (Nat → Int32) → (Nat → Nat → Int32) → Int32 → Int32 → Int32 → Int32 → Int32 → Int32 → Int32 → Option ((Nat → Int32) × (Nat → Nat → Int32) × Int32)) (Hrc_173c : ∀ (i : Nat → Int32) (a : Nat → Nat → Int32) (v1 : Int32) (v2 : Int32) (v3 : Int32) (v4 : Int32) (v5 : Int32) (v10 : Int32) (v11 : Int32), rc_173c i a v1 v2 v3 v4 v5 v10 v11 = some (i2, a2, r2) → ∀ (H : Heap) (locs : List Loc) (ls : Array Slot), va_P (dC, dI) classes (TW cI u o i a g) H → va_D A (TW cI u o i a g) → va_S A s.heap H locs → lv_has ls 15 [(0, .ref ((u 5))), (1, .int v1), (2, .int v2), (3, .int v3), (4, .int v4), (5, .int v5), (7, .ref ((u 32))), (8, .ref ((u 33))), (10, .int v10), (11, .int v11)] → W p l e ({ frames := 2, cells := 0, slots := 0, locals := 55 } : Room) s m args below meth c H locs 0 0 (MQ below (va_Qv xV (xB dC dI cI u o g i2 a2 A) A) args s 0 0 A) (F0 m 173 ls [])) (i : Nat → Int32) (a : Nat → Nat → Int32) (v1 : Int32) (v2 : Int32) (v3 : Int32) (v4 : Int32) (v5 : Int32) (v10 : Int32) (v11 : Int32) (v12 : Int64) (hm : m_Turtles_draw_b283c n g rc_173c i a v1 v2 v3 v4 v5 v10 v11 v12 = some (i2, a2, r2)) : ∀ (H : Heap) (locs : List Loc) (ls : Array Slot), va_P (dC, dI) classes (TW cI u o i a g) H → va_D A (TW cI u o i a g) → va_S A s.heap H locs → lv_has ls 15 [(0, .ref ((u 5))), (1, .int v1), (2, .int v2), (3, .int v3), (4, .int v4), (5, .int v5), (7, .ref ((u 32))), (8, .ref ((u 33))), (10, .int v10), (11, .int v11), (12, .long v12)] → W p l e ({ frames := 2, cells := 0, slots := 0, locals := 55 } : Room) s m args below meth c H locs 0 0 (MQ below (va_Qv xV (xB dC dI cI u o g i2 a2 A) A) args s 0 0 A) (F0 m 283 ls []) := by
  have htt : ∀ w ∈ tw_T, w.before _ s = true := fun w h => hts w (List.mem_cons_of_mem _ h)
  intro H locs ls hP hD hS hl
  rw [m_Turtles_draw_b283c] at hm
  refine lv_lload hx hb d_Turtles_draw_283 (lv_at hl 10 rfl) ?_
  refine lv_ldc2 (v := (-32)) hx hb hown (htt _ lk_Turtles_87) d_Turtles_draw_285 ?_
  refine W.lcmp hx hb d_Turtles_draw_288 ?_
  refine lv_if_lt (tgt := 333) hx hb d_Turtles_draw_289 (by decide) (fun c_1 => ?_) (fun c_1 => ?_)
  · replace hm := if_t c_1 hm
    exact lb_Turtles_draw_333c l dC dI cI adK adV adA u o g n hx hb hml hown hts hK hE hA hr hlocks rc_173c Hrc_173c _ _ _ _ _ _ _ _ _ hm _ _ _ hP hD hS (lv_sub hl [0, 1, 2, 3, 4, 5, 6, 7, 8, 9] rfl)
  · replace hm := if_f c_1 hm
    refine lv_lload hx hb d_Turtles_draw_292 (lv_at hl 10 rfl) ?_
    refine lv_ldc2 (v := 32) hx hb hown (htt _ lk_Turtles_108) d_Turtles_draw_294 ?_
    refine W.lcmp hx hb d_Turtles_draw_297 ?_
    refine lv_if_ge (tgt := 333) hx hb d_Turtles_draw_298 (by decide) (fun c_2 => ?_) (fun c_2 => ?_)
    · replace hm := if_t c_2 hm
      exact lb_Turtles_draw_333c l dC dI cI adK adV adA u o g n hx hb hml hown hts hK hE hA hr hlocks rc_173c Hrc_173c _ _ _ _ _ _ _ _ _ hm _ _ _ hP hD hS (lv_sub hl [0, 1, 2, 3, 4, 5, 6, 7, 8, 9] rfl)
    · replace hm := if_f c_2 hm
      refine lv_lload hx hb d_Turtles_draw_301 (lv_at hl 10 rfl) ?_
      refine lv_l2i hx hb d_Turtles_draw_303 rfl ?_
      refine lv_istore (lv' := [(14, .int v12.toInt32), (0, .ref ((u 5))), (1, .int v1), (2, .int v2), (3, .int v3), (4, .int v4), (5, .int v5), (7, .ref ((u 32))), (8, .ref ((u 33))), (10, .int v10), (11, .int v11), (12, .long v12)]) hx hb d_Turtles_draw_304 hl (by decide) rfl (fun ls hl => ?_)
      refine lv_aload_n hx hb d_Turtles_draw_306 rfl (lv_at hl 1 rfl) ?_
      refine va_get (D := (dC, dI)) (ci := 5) (v := .ref ((u 31))) (C := R_Turtles) (T := F_Turtles) (N := 8) hx hb htt iw_Turtles hown hK hP 5 xo_5 rfl 1 (Nat.le_of_ble_eq_true rfl) (htt _ lk_Turtles_15) (fun _ h9 => h9) xg_5_1 d_Turtles_draw_307 ?_
      refine lv_iload_n hx hb d_Turtles_draw_310 rfl (lv_at hl 4 rfl) ?_
      refine lv_if_eq (tgt := 324) hx hb d_Turtles_draw_311 (by decide) (fun c_3 => ?_) (fun c_3 => ?_)
      · replace hm := if_t c_3 hm
        refine lv_iload hx hb d_Turtles_draw_324 (lv_at hl 0 rfl) ?_
        refine lv_iload hx hb d_Turtles_draw_326 (lv_at hl 10 rfl) ?_
        obtain ⟨r_5, h_4, hm⟩ := ob0_some hm
        have hFc := x_free0 hS hA
        refine va_calli (va_runS (As := [.int v12.toInt32, .int v11]) (rest := [.ref ((u 31))]) ⟨hx, hb, hml, hown, hts⟩ (x_Turtles_dotAt l H.size n h_4) (va_cwS 2 hts (tw_GS tw_cons cw_Turtles_dotAt lk_Turtles_110 st_Turtles_dotAt ini_Turtles) rfl rfl rfl hd_Turtles_dotAt ⟨Nat.le_of_ble_eq_true rfl, Nat.le_of_ble_eq_true rfl⟩) xpS0 rfl rfl hl.1 rfl (lv_room (Nat.le_of_ble_eq_true rfl)) d_Turtles_draw_328 ⟨Nat.le_of_ble_eq_true rfl, Nat.le_of_ble_eq_true rfl⟩) hS (fun q _ h => hFc q h) hFc (fun r9 u9 t9 H locs ht hvm e9 hB hz1 hk1 hS => ?_)
        have e9 : r_5 = r9 := e9
        subst e9
        replace hP := x_keep hP hk1
        clear hFc hk1 hz1 hvm hB ht
        exact lb_Turtles_draw_331c l dC dI cI adK adV adA u o g n hx hb hml hown hts hK hE hA hr hlocks rc_173c Hrc_173c _ _ _ _ _ _ _ _ _ _ hm _ _ _ hP hD hS (lv_sub hl [1, 2, 3, 4, 5, 6, 7, 8, 9, 10] rfl)
      · replace hm := if_f c_3 hm
        refine lv_iload hx hb d_Turtles_draw_314 (lv_at hl 10 rfl) ?_
        refine lv_iload hx hb d_Turtles_draw_316 (lv_at hl 0 rfl) ?_
        obtain ⟨r_7, h_6, hm⟩ := ob0_some hm
        have hFc := x_free0 hS hA
        refine va_calli (va_runS (As := [.int v11, .int v12.toInt32]) (rest := [.ref ((u 31))]) ⟨hx, hb, hml, hown, hts⟩ (x_Turtles_dotAt l H.size n h_6) (va_cwS 2 hts (tw_GS tw_cons cw_Turtles_dotAt lk_Turtles_110 st_Turtles_dotAt ini_Turtles) rfl rfl rfl hd_Turtles_dotAt ⟨Nat.le_of_ble_eq_true rfl, Nat.le_of_ble_eq_true rfl⟩) xpS0 rfl rfl hl.1 rfl (lv_room (Nat.le_of_ble_eq_true rfl)) d_Turtles_draw_318 ⟨Nat.le_of_ble_eq_true rfl, Nat.le_of_ble_eq_true rfl⟩) hS (fun q _ h => hFc q h) hFc (fun r9 u9 t9 H locs ht hvm e9 hB hz1 hk1 hS => ?_)
        have e9 : r_7 = r9 := e9
        subst e9
        replace hP := x_keep hP hk1
        clear hFc hk1 hz1 hvm hB ht
        refine lv_goto (tgt := 331) hx hb d_Turtles_draw_321 (by decide) ?_
        exact lb_Turtles_draw_331c l dC dI cI adK adV adA u o g n hx hb hml hown hts hK hE hA hr hlocks rc_173c Hrc_173c _ _ _ _ _ _ _ _ _ _ hm _ _ _ hP hD hS (lv_sub hl [1, 2, 3, 4, 5, 6, 7, 8, 9, 10] rfl)
def m_Turtles_draw_b173c (n : Nat) (g : Nat → Nat) : Nat → (Nat → Int32) → (Nat → Nat → Int32) → Int32 → Int32 → Int32 → Int32 → Int32 → Int32 → Int32 → Option ((Nat → Int32) × (Nat → Nat → Int32) × Int32)
  | 0, _, _, _, _, _, _, _, _, _ => none
  | f + 1, i, a, v1, v2, v3, v4, v5, v10, v11 => if v10 < v11 then some (i, a, (0 : Int32)) else ck v4 4 (ck ((v4 + 1)) 4 (ob0 (m_Turtles_sideOf n (a 22 v4.toNatClampNeg) (a 22 (v4 + 1).toNatClampNeg) v11) (fun r_5 => if r_5 ≤ ((0 : Int32)) then ck v4 4 (ck ((v4 + 1)) 4 (ob0 (m_Turtles_sideOf n (a 23 v4.toNatClampNeg) (a 23 (v4 + 1).toNatClampNeg) v11) (fun r_10 => if ((0 : Int32)) ≤ r_10 then ck v1 6 (ob0 (m_Turtles_crossing n g i a v4 (tw_st 2 v1.toNatClampNeg) v11) (fun r_14 => m_Turtles_draw_b283c n g (m_Turtles_draw_b173c n g f) i a v1 v2 v3 v4 v5 v10 v11 r_14)) else ck v5 4 (ck ((v5 + 1)) 4 (ob0 (m_Turtles_floorHalf n (((a 23 v5.toNatClampNeg) + 1).toInt64) ((a 23 (v5 + 1).toNatClampNeg).toInt64)) (fun r_18 => m_Turtles_draw_b283c n g (m_Turtles_draw_b173c n g f) i a v1 v2 v3 v4 v5 v10 v11 r_18)))))) else ck v5 4 (ck ((v5 + 1)) 4 (ob0 (m_Turtles_floorHalf n (((a 22 v5.toNatClampNeg) + 1).toInt64) ((a 22 (v5 + 1).toNatClampNeg).toInt64)) (fun r_22 => m_Turtles_draw_b283c n g (m_Turtles_draw_b173c n g f) i a v1 v2 v3 v4 v5 v10 v11 r_22))))))
set_option maxHeartbeats 4000000 in
set_option maxRecDepth 100000 in
theorem lb_Turtles_draw_173c (l : Launch) (dC : Nat → ClassId) (dI : Nat → Nat → Nat) (cI : ClassId) (adK adV adA u o g : Nat → Nat) (n : Nat) {p : Program} {e : Env} {s : State} {m : MethodId} {args : Array Value} {below : List Frame} {meth : Method} {c : Code} {A : Nat → Prop} (hx : p.tables.exec = Jvm.exec) (hb : c.code = b_Turtles_draw) (hml : c.maxLocals = 15) (hown : s.vm.findClass R_Turtles = some m.cls) (hts : ∀ w ∈ w_Turtles_draw, w.before args s = true) (hK : va_K (dC, dI) classes [(cI, .int)] s) (hE : tw_E adK adV adA A s s.heap) (hA : ∀ q : Nat, s.heap.size ≤ q → A q) (hr : meth.sig.returnType = none) (hlocks : meth.locks = false) {i2 : Nat → Int32} {a2 : Nat → Nat → Int32} {r2 : Int32} : ∀ (f : Nat) (i : Nat → Int32) (a : Nat → Nat → Int32) (v1 : Int32) (v2 : Int32) (v3 : Int32) (v4 : Int32) (v5 : Int32) (v10 : Int32) (v11 : Int32), m_Turtles_draw_b173c n g f i a v1 v2 v3 v4 v5 v10 v11 = some (i2, a2, r2) → ∀ (H : Heap) (locs : List Loc) (ls : Array Slot), va_P (dC, dI) classes (TW cI u o i a g) H → va_D A (TW cI u o i a g) → va_S A s.heap H locs → lv_has ls 15 [(0, .ref ((u 5))), (1, .int v1), (2, .int v2), (3, .int v3), (4, .int v4), (5, .int v5), (7, .ref ((u 32))), (8, .ref ((u 33))), (10, .int v10), (11, .int v11)] → W p l e ({ frames := 2, cells := 0, slots := 0, locals := 55 } : Room) s m args below meth c H locs 0 0 (MQ below (va_Qv xV (xB dC dI cI u o g i2 a2 A) A) args s 0 0 A) (F0 m 173 ls []) := by
  have htt : ∀ w ∈ tw_T, w.before _ s = true := fun w h => hts w (List.mem_cons_of_mem _ h)
  intro f
  induction f with
  | zero =>
    intro i a v1 v2 v3 v4 v5 v10 v11 hm
    rw [m_Turtles_draw_b173c] at hm
    cases hm
  | succ f ih =>
    intro i a v1 v2 v3 v4 v5 v10 v11 hm H locs ls hP hD hS hl
    rw [m_Turtles_draw_b173c] at hm
    refine lv_iload hx hb d_Turtles_draw_173 (lv_at hl 9 rfl) ?_
    refine lv_iload hx hb d_Turtles_draw_175 (lv_at hl 8 rfl) ?_
    refine lv_icmp_gt (tgt := 339) hx hb d_Turtles_draw_177 (by decide) (fun c_1 => ?_) (fun c_1 => ?_)
    · replace hm := if_t c_1 hm
      obtain ⟨e1i, e1a, e3⟩ := re3 hm
      obtain ⟨hP, hD⟩ := x_eq e1i e1a hP hD
      exact W.vret hx hb hr (fun t9 ht hW => ⟨⟨(), rfl, trivial, by rw [ht]; exact hP, hD⟩, hS.F ht⟩) hS.2.2 d_Turtles_draw_339
    · replace hm := if_f c_1 hm
      refine lv_aload hx hb d_Turtles_draw_180 (lv_at hl 6 rfl) ?_
      refine lv_iload hx hb d_Turtles_draw_182 (lv_at hl 4 rfl) ?_
      obtain ⟨h_2, hm⟩ := ck_some hm
      refine va_iald hx hb hK hP 34 0 twA_22 rfl h_2 d_Turtles_draw_184 ?_
      refine lv_aload hx hb d_Turtles_draw_185 (lv_at hl 6 rfl) ?_
      refine lv_iload hx hb d_Turtles_draw_187 (lv_at hl 4 rfl) ?_
      refine lv_iconst (v := 1) hx hb d_Turtles_draw_189 (by decide) ?_
      refine lv_iadd hx hb d_Turtles_draw_190 ?_
      obtain ⟨h_3, hm⟩ := ck_some hm
      refine va_iald hx hb hK hP 34 0 twA_22 rfl h_3 d_Turtles_draw_191 ?_
      refine lv_iload hx hb d_Turtles_draw_192 (lv_at hl 9 rfl) ?_
      obtain ⟨r_5, h_4, hm⟩ := ob0_some hm
      have hFc := x_free0 hS hA
      refine va_calli (va_runS (As := [.int (a 22 v4.toNatClampNeg), .int (a 22 (v4 + 1).toNatClampNeg), .int v11]) (rest := []) ⟨hx, hb, hml, hown, hts⟩ (x_Turtles_sideOf l H.size n h_4) (va_cwS 3 hts (tw_GS tw_cons cw_Turtles_sideOf lk_Turtles_97 st_Turtles_sideOf ini_Turtles) rfl rfl rfl hd_Turtles_sideOf ⟨Nat.le_of_ble_eq_true rfl, Nat.le_of_ble_eq_true rfl⟩) xpS0 rfl rfl hl.1 rfl (lv_room (Nat.le_of_ble_eq_true rfl)) d_Turtles_draw_194 ⟨Nat.le_of_ble_eq_true rfl, Nat.le_of_ble_eq_true rfl⟩) hS (fun q _ h => hFc q h) hFc (fun r9 u9 t9 H locs ht hvm e9 hB hz1 hk1 hS => ?_)
      have e9 : r_5 = r9 := e9
      subst e9
      replace hP := x_keep hP hk1
      clear hFc hk1 hz1 hvm hB ht
      refine lv_if_le (tgt := 224) hx hb d_Turtles_draw_197 (by decide) (fun c_6 => ?_) (fun c_6 => ?_)
      · replace hm := if_t c_6 hm
        refine lv_aload hx hb d_Turtles_draw_224 (lv_at hl 7 rfl) ?_
        refine lv_iload hx hb d_Turtles_draw_226 (lv_at hl 4 rfl) ?_
        obtain ⟨h_7, hm⟩ := ck_some hm
        refine va_iald hx hb hK hP 35 0 twA_23 rfl h_7 d_Turtles_draw_228 ?_
        refine lv_aload hx hb d_Turtles_draw_229 (lv_at hl 7 rfl) ?_
        refine lv_iload hx hb d_Turtles_draw_231 (lv_at hl 4 rfl) ?_
        refine lv_iconst (v := 1) hx hb d_Turtles_draw_233 (by decide) ?_
        refine lv_iadd hx hb d_Turtles_draw_234 ?_
        obtain ⟨h_8, hm⟩ := ck_some hm
        refine va_iald hx hb hK hP 35 0 twA_23 rfl h_8 d_Turtles_draw_235 ?_
        refine lv_iload hx hb d_Turtles_draw_236 (lv_at hl 9 rfl) ?_
        obtain ⟨r_10, h_9, hm⟩ := ob0_some hm
        have hFc := x_free0 hS hA
        refine va_calli (va_runS (As := [.int (a 23 v4.toNatClampNeg), .int (a 23 (v4 + 1).toNatClampNeg), .int v11]) (rest := []) ⟨hx, hb, hml, hown, hts⟩ (x_Turtles_sideOf l H.size n h_9) (va_cwS 3 hts (tw_GS tw_cons cw_Turtles_sideOf lk_Turtles_97 st_Turtles_sideOf ini_Turtles) rfl rfl rfl hd_Turtles_sideOf ⟨Nat.le_of_ble_eq_true rfl, Nat.le_of_ble_eq_true rfl⟩) xpS0 rfl rfl hl.1 rfl (lv_room (Nat.le_of_ble_eq_true rfl)) d_Turtles_draw_238 ⟨Nat.le_of_ble_eq_true rfl, Nat.le_of_ble_eq_true rfl⟩) hS (fun q _ h => hFc q h) hFc (fun r9 u9 t9 H locs ht hvm e9 hB hz1 hk1 hS => ?_)
        have e9 : r_10 = r9 := e9
        subst e9
        replace hP := x_keep hP hk1
        clear hFc hk1 hz1 hvm hB ht
        refine lv_if_ge (tgt := 268) hx hb d_Turtles_draw_241 (by decide) (fun c_11 => ?_) (fun c_11 => ?_)
        · replace hm := if_t c_11 hm
          refine lv_aload_n hx hb d_Turtles_draw_268 rfl (lv_at hl 0 rfl) ?_
          refine lv_iload hx hb d_Turtles_draw_269 (lv_at hl 4 rfl) ?_
          refine va_gets hx hb (hE.2 2 (by decide)).1 hS hown (htt _ lk_Turtles_101) (fun _ h9 => h9) d_Turtles_draw_271 ?_
          refine lv_iload_n hx hb d_Turtles_draw_274 rfl (lv_at hl 1 rfl) ?_
          obtain ⟨h_12, hm⟩ := ck_some hm
          refine va_ti (N := 6) (v := .int (tw_st 2 v1.toNatClampNeg)) hx hb (hE.2 2 (by decide)).2 hS h_12 rfl d_Turtles_draw_275 ?_
          refine lv_iload hx hb d_Turtles_draw_276 (lv_at hl 9 rfl) ?_
          obtain ⟨r_14, h_13, hm⟩ := ob0_some hm
          have hFc := x_free0 hS hA
          refine va_calll (va_runV (As := [.int v4, .int (tw_st 2 v1.toNatClampNeg), .int v11]) (rest := []) ⟨hx, hb, hml, hown, hts⟩ (x_Turtles_crossing l dC dI cI adK adV adA u o g H.size n h_13) (cwV 3 hts (tw_GV tw_cons cw_Turtles_crossing lk_Turtles_104 in_Turtles_crossing sel_Turtles_crossing ini_Turtles) rfl rfl rfl ⟨rfl, hd_Turtles_crossing⟩ ⟨Nat.le_of_ble_eq_true rfl, Nat.le_of_ble_eq_true rfl⟩) (xpVr hK hP hS hE hFc xo_5 rfl) rfl rfl hl.1 rfl (lv_room (Nat.le_of_ble_eq_true rfl)) d_Turtles_draw_278 ⟨Nat.le_of_ble_eq_true rfl, Nat.le_of_ble_eq_true rfl⟩) hS (fun q _ h => hFc q h) hFc (fun r9 u9 t9 H locs ht hvm e9 hB hz1 hk1 hS => ?_)
          have e9 : r_14 = r9 := e9
          subst e9
          replace hP := x_keep hP hk1
          clear hFc hk1 hz1 hvm hB ht
          refine lv_lstore (lv' := [(12, .long r_14), (0, .ref ((u 5))), (1, .int v1), (2, .int v2), (3, .int v3), (4, .int v4), (5, .int v5), (7, .ref ((u 32))), (8, .ref ((u 33))), (10, .int v10), (11, .int v11)]) hx hb d_Turtles_draw_281 hl (by decide) rfl (fun ls hl => ?_)
          exact lb_Turtles_draw_283c l dC dI cI adK adV adA u o g n hx hb hml hown hts hK hE hA hr hlocks (m_Turtles_draw_b173c n g f) ih _ _ _ _ _ _ _ _ _ _ hm _ _ _ hP hD hS (lv_sub hl [1, 2, 3, 4, 5, 6, 7, 8, 9, 10, 0] rfl)
        · replace hm := if_f c_11 hm
          refine lv_aload hx hb d_Turtles_draw_244 (lv_at hl 7 rfl) ?_
          refine lv_iload hx hb d_Turtles_draw_246 (lv_at hl 5 rfl) ?_
          obtain ⟨h_15, hm⟩ := ck_some hm
          refine va_iald hx hb hK hP 35 0 twA_23 rfl h_15 d_Turtles_draw_248 ?_
          refine lv_iconst (v := 1) hx hb d_Turtles_draw_249 (by decide) ?_
          refine lv_iadd hx hb d_Turtles_draw_250 ?_
          refine lv_i2l hx hb d_Turtles_draw_251 rfl ?_
          refine lv_aload hx hb d_Turtles_draw_252 (lv_at hl 7 rfl) ?_
          refine lv_iload hx hb d_Turtles_draw_254 (lv_at hl 5 rfl) ?_
          refine lv_iconst (v := 1) hx hb d_Turtles_draw_256 (by decide) ?_
          refine lv_iadd hx hb d_Turtles_draw_257 ?_
          obtain ⟨h_16, hm⟩ := ck_some hm
          refine va_iald hx hb hK hP 35 0 twA_23 rfl h_16 d_Turtles_draw_258 ?_
          refine lv_i2l hx hb d_Turtles_draw_259 rfl ?_
          obtain ⟨r_18, h_17, hm⟩ := ob0_some hm
          have hFc := x_free0 hS hA
          refine va_calll (va_runS (As := [.long (((a 23 v5.toNatClampNeg) + 1).toInt64), .long ((a 23 (v5 + 1).toNatClampNeg).toInt64)]) (rest := []) ⟨hx, hb, hml, hown, hts⟩ (x_Turtles_floorHalf l H.size n h_17) (va_cwS 2 hts (tw_GS tw_cons cw_Turtles_floorHalf lk_Turtles_84 st_Turtles_floorHalf ini_Turtles) rfl rfl rfl hd_Turtles_floorHalf ⟨Nat.le_of_ble_eq_true rfl, Nat.le_of_ble_eq_true rfl⟩) xpS0 rfl rfl hl.1 rfl (lv_room (Nat.le_of_ble_eq_true rfl)) d_Turtles_draw_260 ⟨Nat.le_of_ble_eq_true rfl, Nat.le_of_ble_eq_true rfl⟩) hS (fun q _ h => hFc q h) hFc (fun r9 u9 t9 H locs ht hvm e9 hB hz1 hk1 hS => ?_)
          have e9 : r_18 = r9 := e9
          subst e9
          replace hP := x_keep hP hk1
          clear hFc hk1 hz1 hvm hB ht
          refine lv_lstore (lv' := [(12, .long r_18), (0, .ref ((u 5))), (1, .int v1), (2, .int v2), (3, .int v3), (4, .int v4), (5, .int v5), (7, .ref ((u 32))), (8, .ref ((u 33))), (10, .int v10), (11, .int v11)]) hx hb d_Turtles_draw_263 hl (by decide) rfl (fun ls hl => ?_)
          refine lv_goto (tgt := 283) hx hb d_Turtles_draw_265 (by decide) ?_
          exact lb_Turtles_draw_283c l dC dI cI adK adV adA u o g n hx hb hml hown hts hK hE hA hr hlocks (m_Turtles_draw_b173c n g f) ih _ _ _ _ _ _ _ _ _ _ hm _ _ _ hP hD hS (lv_sub hl [1, 2, 3, 4, 5, 6, 7, 8, 9, 10, 0] rfl)
      · replace hm := if_f c_6 hm
        refine lv_aload hx hb d_Turtles_draw_200 (lv_at hl 6 rfl) ?_
        refine lv_iload hx hb d_Turtles_draw_202 (lv_at hl 5 rfl) ?_
        obtain ⟨h_19, hm⟩ := ck_some hm
        refine va_iald hx hb hK hP 34 0 twA_22 rfl h_19 d_Turtles_draw_204 ?_
        refine lv_iconst (v := 1) hx hb d_Turtles_draw_205 (by decide) ?_
        refine lv_iadd hx hb d_Turtles_draw_206 ?_
        refine lv_i2l hx hb d_Turtles_draw_207 rfl ?_
        refine lv_aload hx hb d_Turtles_draw_208 (lv_at hl 6 rfl) ?_
        refine lv_iload hx hb d_Turtles_draw_210 (lv_at hl 5 rfl) ?_
        refine lv_iconst (v := 1) hx hb d_Turtles_draw_212 (by decide) ?_
        refine lv_iadd hx hb d_Turtles_draw_213 ?_
        obtain ⟨h_20, hm⟩ := ck_some hm
        refine va_iald hx hb hK hP 34 0 twA_22 rfl h_20 d_Turtles_draw_214 ?_
        refine lv_i2l hx hb d_Turtles_draw_215 rfl ?_
        obtain ⟨r_22, h_21, hm⟩ := ob0_some hm
        have hFc := x_free0 hS hA
        refine va_calll (va_runS (As := [.long (((a 22 v5.toNatClampNeg) + 1).toInt64), .long ((a 22 (v5 + 1).toNatClampNeg).toInt64)]) (rest := []) ⟨hx, hb, hml, hown, hts⟩ (x_Turtles_floorHalf l H.size n h_21) (va_cwS 2 hts (tw_GS tw_cons cw_Turtles_floorHalf lk_Turtles_84 st_Turtles_floorHalf ini_Turtles) rfl rfl rfl hd_Turtles_floorHalf ⟨Nat.le_of_ble_eq_true rfl, Nat.le_of_ble_eq_true rfl⟩) xpS0 rfl rfl hl.1 rfl (lv_room (Nat.le_of_ble_eq_true rfl)) d_Turtles_draw_216 ⟨Nat.le_of_ble_eq_true rfl, Nat.le_of_ble_eq_true rfl⟩) hS (fun q _ h => hFc q h) hFc (fun r9 u9 t9 H locs ht hvm e9 hB hz1 hk1 hS => ?_)
        have e9 : r_22 = r9 := e9
        subst e9
        replace hP := x_keep hP hk1
        clear hFc hk1 hz1 hvm hB ht
        refine lv_lstore (lv' := [(12, .long r_22), (0, .ref ((u 5))), (1, .int v1), (2, .int v2), (3, .int v3), (4, .int v4), (5, .int v5), (7, .ref ((u 32))), (8, .ref ((u 33))), (10, .int v10), (11, .int v11)]) hx hb d_Turtles_draw_219 hl (by decide) rfl (fun ls hl => ?_)
        refine lv_goto (tgt := 283) hx hb d_Turtles_draw_221 (by decide) ?_
        exact lb_Turtles_draw_283c l dC dI cI adK adV adA u o g n hx hb hml hown hts hK hE hA hr hlocks (m_Turtles_draw_b173c n g f) ih _ _ _ _ _ _ _ _ _ _ hm _ _ _ hP hD hS (lv_sub hl [1, 2, 3, 4, 5, 6, 7, 8, 9, 10, 0] rfl)
def m_Turtles_draw_b111c (n : Nat) (g : Nat → Nat) (i : Nat → Int32) (a : Nat → Nat → Int32) (v1 : Int32) (v2 : Int32) (v3 : Int32) (v4 : Int32) (v5 : Int32) : Option ((Nat → Int32) × (Nat → Nat → Int32) × Int32) := ck v4 4 (ck ((v4 + 1)) 4 (ob0 (m_Turtles_floorHalf n (((a 22 v4.toNatClampNeg) + 1).toInt64) ((a 22 (v4 + 1).toNatClampNeg).toInt64)) (fun r_4 => ob0 (m_Math_max2 n r_4 (-32 : Int64)) (fun r_6 => ck v4 4 (ck ((v4 + 1)) 4 (ob0 (m_Turtles_floorHalf n (((a 23 v4.toNatClampNeg) + 1).toInt64) ((a 23 (v4 + 1).toNatClampNeg).toInt64)) (fun r_10 => ob0 (m_Math_min2 n r_10 (31 : Int64)) (fun r_12 => m_Turtles_draw_b173c n g n i a v1 v2 v3 v4 v5 r_12.toInt32 r_6.toInt32))))))))
set_option maxHeartbeats 4000000 in
set_option maxRecDepth 100000 in
theorem lb_Turtles_draw_111c (l : Launch) (dC : Nat → ClassId) (dI : Nat → Nat → Nat) (cI : ClassId) (adK adV adA u o g : Nat → Nat) (n : Nat) {p : Program} {e : Env} {s : State} {m : MethodId} {args : Array Value} {below : List Frame} {meth : Method} {c : Code} {A : Nat → Prop} (hx : p.tables.exec = Jvm.exec) (hb : c.code = b_Turtles_draw) (hml : c.maxLocals = 15) (hown : s.vm.findClass R_Turtles = some m.cls) (hts : ∀ w ∈ w_Turtles_draw, w.before args s = true) (hK : va_K (dC, dI) classes [(cI, .int)] s) (hE : tw_E adK adV adA A s s.heap) (hA : ∀ q : Nat, s.heap.size ≤ q → A q) (hr : meth.sig.returnType = none) (hlocks : meth.locks = false) {i2 : Nat → Int32} {a2 : Nat → Nat → Int32} {r2 : Int32} (i : Nat → Int32) (a : Nat → Nat → Int32) (v1 : Int32) (v2 : Int32) (v3 : Int32) (v4 : Int32) (v5 : Int32) (hm : m_Turtles_draw_b111c n g i a v1 v2 v3 v4 v5 = some (i2, a2, r2)) : ∀ (H : Heap) (locs : List Loc) (ls : Array Slot), va_P (dC, dI) classes (TW cI u o i a g) H → va_D A (TW cI u o i a g) → va_S A s.heap H locs → lv_has ls 15 [(0, .ref ((u 5))), (1, .int v1), (2, .int v2), (3, .int v3), (4, .int v4), (5, .int v5), (7, .ref ((u 32)))] → W p l e ({ frames := 2, cells := 0, slots := 0, locals := 55 } : Room) s m args below meth c H locs 0 0 (MQ below (va_Qv xV (xB dC dI cI u o g i2 a2 A) A) args s 0 0 A) (F0 m 111 ls [.ref ((u 33))]) := by
  have htt : ∀ w ∈ tw_T, w.before _ s = true := fun w h => hts w (List.mem_cons_of_mem _ h)
  intro H locs ls hP hD hS hl
  rw [m_Turtles_draw_b111c] at hm
  refine lv_astore (lv' := [(8, .ref ((u 33))), (0, .ref ((u 5))), (1, .int v1), (2, .int v2), (3, .int v3), (4, .int v4), (5, .int v5), (7, .ref ((u 32)))]) hx hb d_Turtles_draw_111 hl (by decide) rfl (fun ls hl => ?_)
  refine lv_aload hx hb d_Turtles_draw_113 (lv_at hl 7 rfl) ?_
  refine lv_iload hx hb d_Turtles_draw_115 (lv_at hl 5 rfl) ?_
  obtain ⟨h_1, hm⟩ := ck_some hm
  refine va_iald hx hb hK hP 34 0 twA_22 rfl h_1 d_Turtles_draw_117 ?_
  refine lv_iconst (v := 1) hx hb d_Turtles_draw_118 (by decide) ?_
  refine lv_iadd hx hb d_Turtles_draw_119 ?_
  refine lv_i2l hx hb d_Turtles_draw_120 rfl ?_
  refine lv_aload hx hb d_Turtles_draw_121 (lv_at hl 7 rfl) ?_
  refine lv_iload hx hb d_Turtles_draw_123 (lv_at hl 5 rfl) ?_
  refine lv_iconst (v := 1) hx hb d_Turtles_draw_125 (by decide) ?_
  refine lv_iadd hx hb d_Turtles_draw_126 ?_
  obtain ⟨h_2, hm⟩ := ck_some hm
  refine va_iald hx hb hK hP 34 0 twA_22 rfl h_2 d_Turtles_draw_127 ?_
  refine lv_i2l hx hb d_Turtles_draw_128 rfl ?_
  obtain ⟨r_4, h_3, hm⟩ := ob0_some hm
  have hFc := x_free0 hS hA
  refine va_calll (va_runS (As := [.long (((a 22 v4.toNatClampNeg) + 1).toInt64), .long ((a 22 (v4 + 1).toNatClampNeg).toInt64)]) (rest := []) ⟨hx, hb, hml, hown, hts⟩ (x_Turtles_floorHalf l H.size n h_3) (va_cwS 2 hts (tw_GS tw_cons cw_Turtles_floorHalf lk_Turtles_84 st_Turtles_floorHalf ini_Turtles) rfl rfl rfl hd_Turtles_floorHalf ⟨Nat.le_of_ble_eq_true rfl, Nat.le_of_ble_eq_true rfl⟩) xpS0 rfl rfl hl.1 rfl (lv_room (Nat.le_of_ble_eq_true rfl)) d_Turtles_draw_129 ⟨Nat.le_of_ble_eq_true rfl, Nat.le_of_ble_eq_true rfl⟩) hS (fun q _ h => hFc q h) hFc (fun r9 u9 t9 H locs ht hvm e9 hB hz1 hk1 hS => ?_)
  have e9 : r_4 = r9 := e9
  subst e9
  replace hP := x_keep hP hk1
  clear hFc hk1 hz1 hvm hB ht
  refine lv_ldc2 (v := (-32)) hx hb hown (htt _ lk_Turtles_87) d_Turtles_draw_132 ?_
  obtain ⟨r_6, h_5, hm⟩ := ob0_some hm
  have hFc := x_free0 hS hA
  refine va_calll (va_runS (As := [.long r_4, .long ((-32))]) (rest := []) ⟨hx, hb, hml, hown, hts⟩ (x_Math_max2 l H.size n h_5) (va_cwS 2 hts (tw_GS tw_cons cw_Math_max2 lk_Turtles_89 st_Math_max2 ini_Math) rfl rfl rfl hd_Math_max2 ⟨Nat.le_of_ble_eq_true rfl, Nat.le_of_ble_eq_true rfl⟩) xpS0 rfl rfl hl.1 rfl (lv_room (Nat.le_of_ble_eq_true rfl)) d_Turtles_draw_135 ⟨Nat.le_of_ble_eq_true rfl, Nat.le_of_ble_eq_true rfl⟩) hS (fun q _ h => hFc q h) hFc (fun r9 u9 t9 H locs ht hvm e9 hB hz1 hk1 hS => ?_)
  have e9 : r_6 = r9 := e9
  subst e9
  replace hP := x_keep hP hk1
  clear hFc hk1 hz1 hvm hB ht
  refine lv_l2i hx hb d_Turtles_draw_138 rfl ?_
  refine lv_istore (lv' := [(9, .int r_6.toInt32), (8, .ref ((u 33))), (0, .ref ((u 5))), (1, .int v1), (2, .int v2), (3, .int v3), (4, .int v4), (5, .int v5), (7, .ref ((u 32)))]) hx hb d_Turtles_draw_139 hl (by decide) rfl (fun ls hl => ?_)
  refine lv_aload hx hb d_Turtles_draw_141 (lv_at hl 1 rfl) ?_
  refine lv_iload hx hb d_Turtles_draw_143 (lv_at hl 6 rfl) ?_
  obtain ⟨h_7, hm⟩ := ck_some hm
  refine va_iald hx hb hK hP 35 0 twA_23 rfl h_7 d_Turtles_draw_145 ?_
  refine lv_iconst (v := 1) hx hb d_Turtles_draw_146 (by decide) ?_
  refine lv_iadd hx hb d_Turtles_draw_147 ?_
  refine lv_i2l hx hb d_Turtles_draw_148 rfl ?_
  refine lv_aload hx hb d_Turtles_draw_149 (lv_at hl 1 rfl) ?_
  refine lv_iload hx hb d_Turtles_draw_151 (lv_at hl 6 rfl) ?_
  refine lv_iconst (v := 1) hx hb d_Turtles_draw_153 (by decide) ?_
  refine lv_iadd hx hb d_Turtles_draw_154 ?_
  obtain ⟨h_8, hm⟩ := ck_some hm
  refine va_iald hx hb hK hP 35 0 twA_23 rfl h_8 d_Turtles_draw_155 ?_
  refine lv_i2l hx hb d_Turtles_draw_156 rfl ?_
  obtain ⟨r_10, h_9, hm⟩ := ob0_some hm
  have hFc := x_free0 hS hA
  refine va_calll (va_runS (As := [.long (((a 23 v4.toNatClampNeg) + 1).toInt64), .long ((a 23 (v4 + 1).toNatClampNeg).toInt64)]) (rest := []) ⟨hx, hb, hml, hown, hts⟩ (x_Turtles_floorHalf l H.size n h_9) (va_cwS 2 hts (tw_GS tw_cons cw_Turtles_floorHalf lk_Turtles_84 st_Turtles_floorHalf ini_Turtles) rfl rfl rfl hd_Turtles_floorHalf ⟨Nat.le_of_ble_eq_true rfl, Nat.le_of_ble_eq_true rfl⟩) xpS0 rfl rfl hl.1 rfl (lv_room (Nat.le_of_ble_eq_true rfl)) d_Turtles_draw_157 ⟨Nat.le_of_ble_eq_true rfl, Nat.le_of_ble_eq_true rfl⟩) hS (fun q _ h => hFc q h) hFc (fun r9 u9 t9 H locs ht hvm e9 hB hz1 hk1 hS => ?_)
  have e9 : r_10 = r9 := e9
  subst e9
  replace hP := x_keep hP hk1
  clear hFc hk1 hz1 hvm hB ht
  refine lv_ldc2 (v := 31) hx hb hown (htt _ lk_Turtles_92) d_Turtles_draw_160 ?_
  obtain ⟨r_12, h_11, hm⟩ := ob0_some hm
  have hFc := x_free0 hS hA
  refine va_calll (va_runS (As := [.long r_10, .long 31]) (rest := []) ⟨hx, hb, hml, hown, hts⟩ (x_Math_min2 l H.size n h_11) (va_cwS 2 hts (tw_GS tw_cons cw_Math_min2 lk_Turtles_94 st_Math_min2 ini_Math) rfl rfl rfl hd_Math_min2 ⟨Nat.le_of_ble_eq_true rfl, Nat.le_of_ble_eq_true rfl⟩) xpS0 rfl rfl hl.1 rfl (lv_room (Nat.le_of_ble_eq_true rfl)) d_Turtles_draw_163 ⟨Nat.le_of_ble_eq_true rfl, Nat.le_of_ble_eq_true rfl⟩) hS (fun q _ h => hFc q h) hFc (fun r9 u9 t9 H locs ht hvm e9 hB hz1 hk1 hS => ?_)
  have e9 : r_12 = r9 := e9
  subst e9
  replace hP := x_keep hP hk1
  clear hFc hk1 hz1 hvm hB ht
  refine lv_l2i hx hb d_Turtles_draw_166 rfl ?_
  refine lv_istore (lv' := [(10, .int r_12.toInt32), (9, .int r_6.toInt32), (8, .ref ((u 33))), (0, .ref ((u 5))), (1, .int v1), (2, .int v2), (3, .int v3), (4, .int v4), (5, .int v5), (7, .ref ((u 32)))]) hx hb d_Turtles_draw_167 hl (by decide) rfl (fun ls hl => ?_)
  refine lv_iload hx hb d_Turtles_draw_169 (lv_at hl 1 rfl) ?_
  refine lv_istore (lv' := [(11, .int r_6.toInt32), (10, .int r_12.toInt32), (9, .int r_6.toInt32), (8, .ref ((u 33))), (0, .ref ((u 5))), (1, .int v1), (2, .int v2), (3, .int v3), (4, .int v4), (5, .int v5), (7, .ref ((u 32)))]) hx hb d_Turtles_draw_171 hl (by decide) rfl (fun ls hl => ?_)
  exact lb_Turtles_draw_173c l dC dI cI adK adV adA u o g n hx hb hml hown hts hK hE hA hr hlocks n _ _ _ _ _ _ _ _ _ hm _ _ _ hP hD hS (lv_sub hl [4, 5, 6, 7, 8, 9, 10, 3, 1, 0] rfl)
def m_Turtles_draw_b93a (n : Nat) (g : Nat → Nat) (i : Nat → Int32) (a : Nat → Nat → Int32) (v1 : Int32) (v2 : Int32) (v3 : Int32) (v4 : Int32) (v5 : Int32) (v6 : Int32) : Option ((Nat → Int32) × (Nat → Nat → Int32) × Int32) := if v6 = ((0 : Int32)) then m_Turtles_draw_b111b n g i a v1 v2 v3 v4 v5 else m_Turtles_draw_b111c n g i a v1 v2 v3 v4 v5
set_option maxHeartbeats 4000000 in
set_option maxRecDepth 100000 in
theorem lb_Turtles_draw_93a (l : Launch) (dC : Nat → ClassId) (dI : Nat → Nat → Nat) (cI : ClassId) (adK adV adA u o g : Nat → Nat) (n : Nat) {p : Program} {e : Env} {s : State} {m : MethodId} {args : Array Value} {below : List Frame} {meth : Method} {c : Code} {A : Nat → Prop} (hx : p.tables.exec = Jvm.exec) (hb : c.code = b_Turtles_draw) (hml : c.maxLocals = 15) (hown : s.vm.findClass R_Turtles = some m.cls) (hts : ∀ w ∈ w_Turtles_draw, w.before args s = true) (hK : va_K (dC, dI) classes [(cI, .int)] s) (hE : tw_E adK adV adA A s s.heap) (hA : ∀ q : Nat, s.heap.size ≤ q → A q) (hr : meth.sig.returnType = none) (hlocks : meth.locks = false) {i2 : Nat → Int32} {a2 : Nat → Nat → Int32} {r2 : Int32} (i : Nat → Int32) (a : Nat → Nat → Int32) (v1 : Int32) (v2 : Int32) (v3 : Int32) (v4 : Int32) (v5 : Int32) (v6 : Int32) (hm : m_Turtles_draw_b93a n g i a v1 v2 v3 v4 v5 v6 = some (i2, a2, r2)) : ∀ (H : Heap) (locs : List Loc) (ls : Array Slot), va_P (dC, dI) classes (TW cI u o i a g) H → va_D A (TW cI u o i a g) → va_S A s.heap H locs → lv_has ls 15 [(0, .ref ((u 5))), (1, .int v1), (2, .int v2), (3, .int v3), (4, .int v4), (5, .int v5), (6, .int v6)] → W p l e ({ frames := 2, cells := 0, slots := 0, locals := 55 } : Room) s m args below meth c H locs 0 0 (MQ below (va_Qv xV (xB dC dI cI u o g i2 a2 A) A) args s 0 0 A) (F0 m 93 ls [.ref ((u 32))]) := by
  have htt : ∀ w ∈ tw_T, w.before _ s = true := fun w h => hts w (List.mem_cons_of_mem _ h)
  intro H locs ls hP hD hS hl
  rw [m_Turtles_draw_b93a] at hm
  refine lv_astore (lv' := [(7, .ref ((u 32))), (0, .ref ((u 5))), (1, .int v1), (2, .int v2), (3, .int v3), (4, .int v4), (5, .int v5), (6, .int v6)]) hx hb d_Turtles_draw_93 hl (by decide) rfl (fun ls hl => ?_)
  refine lv_iload hx hb d_Turtles_draw_95 (lv_at hl 7 rfl) ?_
  refine lv_if_eq (tgt := 107) hx hb d_Turtles_draw_97 (by decide) (fun c_1 => ?_) (fun c_1 => ?_)
  · replace hm := if_t c_1 hm
    refine lv_aload_n hx hb d_Turtles_draw_107 rfl (lv_at hl 1 rfl) ?_
    refine va_get (D := (dC, dI)) (ci := 5) (v := .ref ((u 32))) (C := R_Turtles) (T := F_Turtles) (N := 8) hx hb htt iw_Turtles hown hK hP 5 xo_5 rfl 3 (Nat.le_of_ble_eq_true rfl) (htt _ lk_Turtles_18) (fun _ h9 => h9) xg_5_3 d_Turtles_draw_108 ?_
    exact lb_Turtles_draw_111b l dC dI cI adK adV adA u o g n hx hb hml hown hts hK hE hA hr hlocks _ _ _ _ _ _ _ hm _ _ _ hP hD hS (lv_sub hl [1, 2, 3, 4, 5, 6, 0] rfl)
  · replace hm := if_f c_1 hm
    refine lv_aload_n hx hb d_Turtles_draw_100 rfl (lv_at hl 1 rfl) ?_
    refine va_get (D := (dC, dI)) (ci := 5) (v := .ref ((u 33))) (C := R_Turtles) (T := F_Turtles) (N := 8) hx hb htt iw_Turtles hown hK hP 5 xo_5 rfl 4 (Nat.le_of_ble_eq_true rfl) (htt _ lk_Turtles_21) (fun _ h9 => h9) xg_5_4 d_Turtles_draw_101 ?_
    refine lv_goto (tgt := 111) hx hb d_Turtles_draw_104 (by decide) ?_
    exact lb_Turtles_draw_111c l dC dI cI adK adV adA u o g n hx hb hml hown hts hK hE hA hr hlocks _ _ _ _ _ _ _ hm _ _ _ hP hD hS (lv_sub hl [1, 2, 3, 4, 5, 6, 0] rfl)
def m_Turtles_draw_b75 (n : Nat) (g : Nat → Nat) (i : Nat → Int32) (a : Nat → Nat → Int32) (v1 : Int32) (v2 : Int32) (v3 : Int32) (v4 : Int32) (v5 : Int32) (s0 : Int32) : Option ((Nat → Int32) × (Nat → Nat → Int32) × Int32) := if s0 = ((0 : Int32)) then m_Turtles_draw_b93 n g i a v1 v2 v3 v4 v5 s0 else m_Turtles_draw_b93a n g i a v1 v2 v3 v4 v5 s0
set_option maxHeartbeats 4000000 in
set_option maxRecDepth 100000 in
theorem lb_Turtles_draw_75 (l : Launch) (dC : Nat → ClassId) (dI : Nat → Nat → Nat) (cI : ClassId) (adK adV adA u o g : Nat → Nat) (n : Nat) {p : Program} {e : Env} {s : State} {m : MethodId} {args : Array Value} {below : List Frame} {meth : Method} {c : Code} {A : Nat → Prop} (hx : p.tables.exec = Jvm.exec) (hb : c.code = b_Turtles_draw) (hml : c.maxLocals = 15) (hown : s.vm.findClass R_Turtles = some m.cls) (hts : ∀ w ∈ w_Turtles_draw, w.before args s = true) (hK : va_K (dC, dI) classes [(cI, .int)] s) (hE : tw_E adK adV adA A s s.heap) (hA : ∀ q : Nat, s.heap.size ≤ q → A q) (hr : meth.sig.returnType = none) (hlocks : meth.locks = false) {i2 : Nat → Int32} {a2 : Nat → Nat → Int32} {r2 : Int32} (i : Nat → Int32) (a : Nat → Nat → Int32) (v1 : Int32) (v2 : Int32) (v3 : Int32) (v4 : Int32) (v5 : Int32) (s0 : Int32) (hm : m_Turtles_draw_b75 n g i a v1 v2 v3 v4 v5 s0 = some (i2, a2, r2)) : ∀ (H : Heap) (locs : List Loc) (ls : Array Slot), va_P (dC, dI) classes (TW cI u o i a g) H → va_D A (TW cI u o i a g) → va_S A s.heap H locs → lv_has ls 15 [(0, .ref ((u 5))), (1, .int v1), (2, .int v2), (3, .int v3), (4, .int v4), (5, .int v5)] → W p l e ({ frames := 2, cells := 0, slots := 0, locals := 55 } : Room) s m args below meth c H locs 0 0 (MQ below (va_Qv xV (xB dC dI cI u o g i2 a2 A) A) args s 0 0 A) (F0 m 75 ls [.int s0]) := by
  have htt : ∀ w ∈ tw_T, w.before _ s = true := fun w h => hts w (List.mem_cons_of_mem _ h)
  intro H locs ls hP hD hS hl
  rw [m_Turtles_draw_b75] at hm
  refine lv_istore (lv' := [(6, .int s0), (0, .ref ((u 5))), (1, .int v1), (2, .int v2), (3, .int v3), (4, .int v4), (5, .int v5)]) hx hb d_Turtles_draw_75 hl (by decide) rfl (fun ls hl => ?_)
  refine lv_iload hx hb d_Turtles_draw_77 (lv_at hl 0 rfl) ?_
  refine lv_if_eq (tgt := 89) hx hb d_Turtles_draw_79 (by decide) (fun c_1 => ?_) (fun c_1 => ?_)
  · replace hm := if_t c_1 hm
    refine lv_aload_n hx hb d_Turtles_draw_89 rfl (lv_at hl 1 rfl) ?_
    refine va_get (D := (dC, dI)) (ci := 5) (v := .ref ((u 33))) (C := R_Turtles) (T := F_Turtles) (N := 8) hx hb htt iw_Turtles hown hK hP 5 xo_5 rfl 4 (Nat.le_of_ble_eq_true rfl) (htt _ lk_Turtles_21) (fun _ h9 => h9) xg_5_4 d_Turtles_draw_90 ?_
    exact lb_Turtles_draw_93 l dC dI cI adK adV adA u o g n hx hb hml hown hts hK hE hA hr hlocks _ _ _ _ _ _ _ _ hm _ _ _ hP hD hS (lv_sub hl [1, 2, 3, 4, 5, 6, 0] rfl)
  · replace hm := if_f c_1 hm
    refine lv_aload_n hx hb d_Turtles_draw_82 rfl (lv_at hl 1 rfl) ?_
    refine va_get (D := (dC, dI)) (ci := 5) (v := .ref ((u 32))) (C := R_Turtles) (T := F_Turtles) (N := 8) hx hb htt iw_Turtles hown hK hP 5 xo_5 rfl 3 (Nat.le_of_ble_eq_true rfl) (htt _ lk_Turtles_18) (fun _ h9 => h9) xg_5_3 d_Turtles_draw_83 ?_
    refine lv_goto (tgt := 93) hx hb d_Turtles_draw_86 (by decide) ?_
    exact lb_Turtles_draw_93a l dC dI cI adK adV adA u o g n hx hb hml hown hts hK hE hA hr hlocks _ _ _ _ _ _ _ _ hm _ _ _ hP hD hS (lv_sub hl [1, 2, 3, 4, 5, 6, 0] rfl)
def m_Turtles_draw_b25 (n : Nat) (g : Nat → Nat) (i : Nat → Int32) (a : Nat → Nat → Int32) (v1 : Int32) (v2 : Int32) (v3 : Int32) (s0 : Int32) : Option ((Nat → Int32) × (Nat → Nat → Int32) × Int32) := ob1 (2 - s0 : Int32) (fun x_1 => ck s0 4 (ck ((s0 + 1)) 4 (ck s0 4 (ck ((s0 + 1)) 4 (if (((a 23 s0.toNatClampNeg) + (a 23 (s0 + 1).toNatClampNeg))) ≤ (((a 22 s0.toNatClampNeg) + (a 22 (s0 + 1).toNatClampNeg))) then m_Turtles_draw_b75 n g i a v1 v2 v3 s0 x_1 (0 : Int32) else m_Turtles_draw_b75 n g i a v1 v2 v3 s0 x_1 (1 : Int32))))))
set_option maxHeartbeats 4000000 in
set_option maxRecDepth 100000 in
theorem lb_Turtles_draw_25 (l : Launch) (dC : Nat → ClassId) (dI : Nat → Nat → Nat) (cI : ClassId) (adK adV adA u o g : Nat → Nat) (n : Nat) {p : Program} {e : Env} {s : State} {m : MethodId} {args : Array Value} {below : List Frame} {meth : Method} {c : Code} {A : Nat → Prop} (hx : p.tables.exec = Jvm.exec) (hb : c.code = b_Turtles_draw) (hml : c.maxLocals = 15) (hown : s.vm.findClass R_Turtles = some m.cls) (hts : ∀ w ∈ w_Turtles_draw, w.before args s = true) (hK : va_K (dC, dI) classes [(cI, .int)] s) (hE : tw_E adK adV adA A s s.heap) (hA : ∀ q : Nat, s.heap.size ≤ q → A q) (hr : meth.sig.returnType = none) (hlocks : meth.locks = false) {i2 : Nat → Int32} {a2 : Nat → Nat → Int32} {r2 : Int32} (i : Nat → Int32) (a : Nat → Nat → Int32) (v1 : Int32) (v2 : Int32) (v3 : Int32) (s0 : Int32) (hm : m_Turtles_draw_b25 n g i a v1 v2 v3 s0 = some (i2, a2, r2)) : ∀ (H : Heap) (locs : List Loc) (ls : Array Slot), va_P (dC, dI) classes (TW cI u o i a g) H → va_D A (TW cI u o i a g) → va_S A s.heap H locs → lv_has ls 15 [(0, .ref ((u 5))), (1, .int v1), (2, .int v2), (3, .int v3)] → W p l e ({ frames := 2, cells := 0, slots := 0, locals := 55 } : Room) s m args below meth c H locs 0 0 (MQ below (va_Qv xV (xB dC dI cI u o g i2 a2 A) A) args s 0 0 A) (F0 m 25 ls [.int s0]) := by
  have htt : ∀ w ∈ tw_T, w.before _ s = true := fun w h => hts w (List.mem_cons_of_mem _ h)
  intro H locs ls hP hD hS hl
  rw [m_Turtles_draw_b25] at hm
  refine lv_istore (lv' := [(4, .int s0), (0, .ref ((u 5))), (1, .int v1), (2, .int v2), (3, .int v3)]) hx hb d_Turtles_draw_25 hl (by decide) rfl (fun ls hl => ?_)
  refine lv_iconst (v := 2) hx hb d_Turtles_draw_27 (by decide) ?_
  refine lv_iload hx hb d_Turtles_draw_28 (lv_at hl 0 rfl) ?_
  refine lv_isub hx hb d_Turtles_draw_30 ?_
  refine lv_topi (fun x_1 ex_1 => ?_)
  replace hm := ob1_at ex_1 hm
  refine lv_istore (lv' := [(5, .int x_1), (4, .int s0), (0, .ref ((u 5))), (1, .int v1), (2, .int v2), (3, .int v3)]) hx hb d_Turtles_draw_31 hl (by decide) rfl (fun ls hl => ?_)
  refine lv_aload_n hx hb d_Turtles_draw_33 rfl (lv_at hl 2 rfl) ?_
  refine va_get (D := (dC, dI)) (ci := 5) (v := .ref ((u 33))) (C := R_Turtles) (T := F_Turtles) (N := 8) hx hb htt iw_Turtles hown hK hP 5 xo_5 rfl 4 (Nat.le_of_ble_eq_true rfl) (htt _ lk_Turtles_21) (fun _ h9 => h9) xg_5_4 d_Turtles_draw_34 ?_
  refine lv_iload hx hb d_Turtles_draw_37 (lv_at hl 1 rfl) ?_
  obtain ⟨h_2, hm⟩ := ck_some hm
  refine va_iald hx hb hK hP 35 0 twA_23 rfl h_2 d_Turtles_draw_39 ?_
  refine lv_aload_n hx hb d_Turtles_draw_40 rfl (lv_at hl 2 rfl) ?_
  refine va_get (D := (dC, dI)) (ci := 5) (v := .ref ((u 33))) (C := R_Turtles) (T := F_Turtles) (N := 8) hx hb htt iw_Turtles hown hK hP 5 xo_5 rfl 4 (Nat.le_of_ble_eq_true rfl) (htt _ lk_Turtles_21) (fun _ h9 => h9) xg_5_4 d_Turtles_draw_41 ?_
  refine lv_iload hx hb d_Turtles_draw_44 (lv_at hl 1 rfl) ?_
  refine lv_iconst (v := 1) hx hb d_Turtles_draw_46 (by decide) ?_
  refine lv_iadd hx hb d_Turtles_draw_47 ?_
  obtain ⟨h_3, hm⟩ := ck_some hm
  refine va_iald hx hb hK hP 35 0 twA_23 rfl h_3 d_Turtles_draw_48 ?_
  refine lv_iadd hx hb d_Turtles_draw_49 ?_
  refine lv_aload_n hx hb d_Turtles_draw_50 rfl (lv_at hl 2 rfl) ?_
  refine va_get (D := (dC, dI)) (ci := 5) (v := .ref ((u 32))) (C := R_Turtles) (T := F_Turtles) (N := 8) hx hb htt iw_Turtles hown hK hP 5 xo_5 rfl 3 (Nat.le_of_ble_eq_true rfl) (htt _ lk_Turtles_18) (fun _ h9 => h9) xg_5_3 d_Turtles_draw_51 ?_
  refine lv_iload hx hb d_Turtles_draw_54 (lv_at hl 1 rfl) ?_
  obtain ⟨h_4, hm⟩ := ck_some hm
  refine va_iald hx hb hK hP 34 0 twA_22 rfl h_4 d_Turtles_draw_56 ?_
  refine lv_aload_n hx hb d_Turtles_draw_57 rfl (lv_at hl 2 rfl) ?_
  refine va_get (D := (dC, dI)) (ci := 5) (v := .ref ((u 32))) (C := R_Turtles) (T := F_Turtles) (N := 8) hx hb htt iw_Turtles hown hK hP 5 xo_5 rfl 3 (Nat.le_of_ble_eq_true rfl) (htt _ lk_Turtles_18) (fun _ h9 => h9) xg_5_3 d_Turtles_draw_58 ?_
  refine lv_iload hx hb d_Turtles_draw_61 (lv_at hl 1 rfl) ?_
  refine lv_iconst (v := 1) hx hb d_Turtles_draw_63 (by decide) ?_
  refine lv_iadd hx hb d_Turtles_draw_64 ?_
  obtain ⟨h_5, hm⟩ := ck_some hm
  refine va_iald hx hb hK hP 34 0 twA_22 rfl h_5 d_Turtles_draw_65 ?_
  refine lv_iadd hx hb d_Turtles_draw_66 ?_
  refine lv_icmp_le (tgt := 74) hx hb d_Turtles_draw_67 (by decide) (fun c_6 => ?_) (fun c_6 => ?_)
  · replace hm := if_t c_6 hm
    refine lv_iconst (v := 0) hx hb d_Turtles_draw_74 (by decide) ?_
    exact lb_Turtles_draw_75 l dC dI cI adK adV adA u o g n hx hb hml hown hts hK hE hA hr hlocks _ _ _ _ _ _ _ _ hm _ _ _ hP hD hS (lv_sub hl [2, 3, 4, 5, 1, 0] rfl)
  · replace hm := if_f c_6 hm
    refine lv_iconst (v := 1) hx hb d_Turtles_draw_70 (by decide) ?_
    refine lv_goto (tgt := 75) hx hb d_Turtles_draw_71 (by decide) ?_
    exact lb_Turtles_draw_75 l dC dI cI adK adV adA u o g n hx hb hml hown hts hK hE hA hr hlocks _ _ _ _ _ _ _ _ hm _ _ _ hP hD hS (lv_sub hl [2, 3, 4, 5, 1, 0] rfl)
def m_Turtles_draw_b15 (n : Nat) (g : Nat → Nat) (i : Nat → Int32) (a : Nat → Nat → Int32) (v1 : Int32) (v2 : Int32) (s0 : Int32) : Option ((Nat → Int32) × (Nat → Nat → Int32) × Int32) := if s0 = ((0 : Int32)) then m_Turtles_draw_b25 n g i a v1 v2 s0 (2 : Int32) else m_Turtles_draw_b25 n g i a v1 v2 s0 (0 : Int32)
set_option maxHeartbeats 4000000 in
set_option maxRecDepth 100000 in
theorem lb_Turtles_draw_15 (l : Launch) (dC : Nat → ClassId) (dI : Nat → Nat → Nat) (cI : ClassId) (adK adV adA u o g : Nat → Nat) (n : Nat) {p : Program} {e : Env} {s : State} {m : MethodId} {args : Array Value} {below : List Frame} {meth : Method} {c : Code} {A : Nat → Prop} (hx : p.tables.exec = Jvm.exec) (hb : c.code = b_Turtles_draw) (hml : c.maxLocals = 15) (hown : s.vm.findClass R_Turtles = some m.cls) (hts : ∀ w ∈ w_Turtles_draw, w.before args s = true) (hK : va_K (dC, dI) classes [(cI, .int)] s) (hE : tw_E adK adV adA A s s.heap) (hA : ∀ q : Nat, s.heap.size ≤ q → A q) (hr : meth.sig.returnType = none) (hlocks : meth.locks = false) {i2 : Nat → Int32} {a2 : Nat → Nat → Int32} {r2 : Int32} (i : Nat → Int32) (a : Nat → Nat → Int32) (v1 : Int32) (v2 : Int32) (s0 : Int32) (hm : m_Turtles_draw_b15 n g i a v1 v2 s0 = some (i2, a2, r2)) : ∀ (H : Heap) (locs : List Loc) (ls : Array Slot), va_P (dC, dI) classes (TW cI u o i a g) H → va_D A (TW cI u o i a g) → va_S A s.heap H locs → lv_has ls 15 [(0, .ref ((u 5))), (1, .int v1), (2, .int v2)] → W p l e ({ frames := 2, cells := 0, slots := 0, locals := 55 } : Room) s m args below meth c H locs 0 0 (MQ below (va_Qv xV (xB dC dI cI u o g i2 a2 A) A) args s 0 0 A) (F0 m 15 ls [.int s0]) := by
  have htt : ∀ w ∈ tw_T, w.before _ s = true := fun w h => hts w (List.mem_cons_of_mem _ h)
  intro H locs ls hP hD hS hl
  rw [m_Turtles_draw_b15] at hm
  refine lv_istore_n (lv' := [(3, .int s0), (0, .ref ((u 5))), (1, .int v1), (2, .int v2)]) hx hb d_Turtles_draw_15 rfl hl (by decide) rfl (fun ls hl => ?_)
  refine lv_iload_n hx hb d_Turtles_draw_16 rfl (lv_at hl 0 rfl) ?_
  refine lv_if_eq (tgt := 24) hx hb d_Turtles_draw_17 (by decide) (fun c_1 => ?_) (fun c_1 => ?_)
  · replace hm := if_t c_1 hm
    refine lv_iconst (v := 2) hx hb d_Turtles_draw_24 (by decide) ?_
    exact lb_Turtles_draw_25 l dC dI cI adK adV adA u o g n hx hb hml hown hts hK hE hA hr hlocks _ _ _ _ _ _ hm _ _ _ hP hD hS (lv_sub hl [1, 2, 3, 0] rfl)
  · replace hm := if_f c_1 hm
    refine lv_iconst (v := 0) hx hb d_Turtles_draw_20 (by decide) ?_
    refine lv_goto (tgt := 25) hx hb d_Turtles_draw_21 (by decide) ?_
    exact lb_Turtles_draw_25 l dC dI cI adK adV adA u o g n hx hb hml hown hts hK hE hA hr hlocks _ _ _ _ _ _ hm _ _ _ hP hD hS (lv_sub hl [1, 2, 3, 0] rfl)
def m_Turtles_draw_b14 (n : Nat) (g : Nat → Nat) (i : Nat → Int32) (a : Nat → Nat → Int32) (v1 : Int32) (v2 : Int32) : Option ((Nat → Int32) × (Nat → Nat → Int32) × Int32) := m_Turtles_draw_b15 n g i a v1 v2 (0 : Int32)
set_option maxHeartbeats 4000000 in
set_option maxRecDepth 100000 in
theorem lb_Turtles_draw_14 (l : Launch) (dC : Nat → ClassId) (dI : Nat → Nat → Nat) (cI : ClassId) (adK adV adA u o g : Nat → Nat) (n : Nat) {p : Program} {e : Env} {s : State} {m : MethodId} {args : Array Value} {below : List Frame} {meth : Method} {c : Code} {A : Nat → Prop} (hx : p.tables.exec = Jvm.exec) (hb : c.code = b_Turtles_draw) (hml : c.maxLocals = 15) (hown : s.vm.findClass R_Turtles = some m.cls) (hts : ∀ w ∈ w_Turtles_draw, w.before args s = true) (hK : va_K (dC, dI) classes [(cI, .int)] s) (hE : tw_E adK adV adA A s s.heap) (hA : ∀ q : Nat, s.heap.size ≤ q → A q) (hr : meth.sig.returnType = none) (hlocks : meth.locks = false) {i2 : Nat → Int32} {a2 : Nat → Nat → Int32} {r2 : Int32} (i : Nat → Int32) (a : Nat → Nat → Int32) (v1 : Int32) (v2 : Int32) (hm : m_Turtles_draw_b14 n g i a v1 v2 = some (i2, a2, r2)) : ∀ (H : Heap) (locs : List Loc) (ls : Array Slot), va_P (dC, dI) classes (TW cI u o i a g) H → va_D A (TW cI u o i a g) → va_S A s.heap H locs → lv_has ls 15 [(0, .ref ((u 5))), (1, .int v1), (2, .int v2)] → W p l e ({ frames := 2, cells := 0, slots := 0, locals := 55 } : Room) s m args below meth c H locs 0 0 (MQ below (va_Qv xV (xB dC dI cI u o g i2 a2 A) A) args s 0 0 A) (F0 m 14 ls []) := by
  have htt : ∀ w ∈ tw_T, w.before _ s = true := fun w h => hts w (List.mem_cons_of_mem _ h)
  intro H locs ls hP hD hS hl
  rw [m_Turtles_draw_b14] at hm
  refine lv_iconst (v := 0) hx hb d_Turtles_draw_14 (by decide) ?_
  exact lb_Turtles_draw_15 l dC dI cI adK adV adA u o g n hx hb hml hown hts hK hE hA hr hlocks _ _ _ _ _ hm _ _ _ hP hD hS (lv_sub hl [0, 1, 2] rfl)
def m_Turtles_draw (n : Nat) (g : Nat → Nat) (i : Nat → Int32) (a : Nat → Nat → Int32) (v1 : Int32) (v2 : Int32) : Option ((Nat → Int32) × (Nat → Nat → Int32) × Int32) := if v1 < ((2 : Int32)) then m_Turtles_draw_b14 n g i a v1 v2 else if ((4 : Int32)) < v1 then m_Turtles_draw_b14 n g i a v1 v2 else m_Turtles_draw_b15 n g i a v1 v2 (1 : Int32)
set_option maxHeartbeats 4000000 in
set_option maxRecDepth 100000 in
theorem x_Turtles_draw (l : Launch) (dC : Nat → ClassId) (dI : Nat → Nat → Nat) (cI : ClassId) (adK adV adA u o g : Nat → Nat) (sz : Nat) (n : Nat) {i : Nat → Int32} {a : Nat → Nat → Int32} {v1 : Int32} {v2 : Int32} {i2 : Nat → Int32} {a2 : Nat → Nat → Int32} {r2 : Int32} (hm : m_Turtles_draw n g i a v1 v2 = some (i2, a2, r2)) : Met l y_Turtles_draw w_Turtles_draw ({ frames := 2, cells := 0, slots := 0, locals := 55 } : Room) (va_Pc [.ref ((u 5)), .int v1, .int v2] (xE dC dI cI adK adV adA u o g i a sz)) (va_Qv xV (xB dC dI cI u o g i2 a2 (va_A (TW cI u o i a g) sz)) (va_A (TW cI u o i a g) sz)) 0 0 ((va_A (TW cI u o i a g) sz)) := by
  refine Met.ofW (cc := b_Turtles_draw) (maxL := 15) (ret := none) (by decide) rfl ?_
  intro p e s m args below meth c s₁ B hml hv
  obtain ⟨rfl, hsz, hP, hK, hE, hD0⟩ := hv
  have hx := B.exec
  have hb := B.bytes
  have hr := B.returns
  have hts := atoms_spec (ws := w_Turtles_draw) B.pre
  have htt : ∀ w ∈ tw_T, w.before _ s = true := fun w h => hts w (List.mem_cons_of_mem _ h)
  have hown : s.vm.findClass R_Turtles = some m.cls := findClass_of_methodNamed B.named
  have hlocks := B.notSynchronized
  subst hsz
  have hD := hD0.self (sz := s.heap.size)
  generalize hAe : (va_A (TW cI u o i a g) s.heap.size) = A at hD hE ⊢
  have hA : ∀ q : Nat, s.heap.size ≤ q → A q := fun q h => by rw [← hAe]; exact Or.inr h
  have hS : va_S A s.heap s.heap [] := va_S.rf
  have hl := lv_entry ([.ref ((u 5)), .int v1, .int v2]) (n := 15) (Nat.le_of_ble_eq_true rfl)
  rw [lg_entry_eq]
  generalize (lg_sl ([.ref ((u 5)), .int v1, .int v2]) ++ List.replicate (15 - (lg_sl ([.ref ((u 5)), .int v1, .int v2])).length) Slot.unset).toArray = ls at hl ⊢
  have hl : lv_has ls 15 [(0, .ref ((u 5))), (1, .int v1), (2, .int v2)] := hl
  rw [m_Turtles_draw] at hm
  refine lv_iload_n hx hb d_Turtles_draw_0 rfl (lv_at hl 1 rfl) ?_
  refine lv_iconst (v := 2) hx hb d_Turtles_draw_1 (by decide) ?_
  refine lv_icmp_lt (tgt := 14) hx hb d_Turtles_draw_2 (by decide) (fun c_1 => ?_) (fun c_1 => ?_)
  · replace hm := if_t c_1 hm
    exact lb_Turtles_draw_14 l dC dI cI adK adV adA u o g n hx hb hml hown hts hK hE hA hr hlocks _ _ _ _ hm _ _ _ hP hD hS (lv_sub hl [0, 1, 2] rfl)
  · replace hm := if_f c_1 hm
    refine lv_iload_n hx hb d_Turtles_draw_5 rfl (lv_at hl 1 rfl) ?_
    refine lv_iconst (v := 4) hx hb d_Turtles_draw_6 (by decide) ?_
    refine lv_icmp_gt (tgt := 14) hx hb d_Turtles_draw_7 (by decide) (fun c_2 => ?_) (fun c_2 => ?_)
    · replace hm := if_t c_2 hm
      exact lb_Turtles_draw_14 l dC dI cI adK adV adA u o g n hx hb hml hown hts hK hE hA hr hlocks _ _ _ _ hm _ _ _ hP hD hS (lv_sub hl [0, 1, 2] rfl)
    · replace hm := if_f c_2 hm
      refine lv_iconst (v := 1) hx hb d_Turtles_draw_10 (by decide) ?_
      refine lv_goto (tgt := 15) hx hb d_Turtles_draw_11 (by decide) ?_
      exact lb_Turtles_draw_15 l dC dI cI adK adV adA u o g n hx hb hml hown hts hK hE hA hr hlocks _ _ _ _ _ hm _ _ _ hP hD hS (lv_sub hl [0, 1, 2] rfl)
