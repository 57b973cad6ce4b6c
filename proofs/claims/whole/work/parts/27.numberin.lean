theorem d_Heap_numberIn_0 : decode b_Heap_numberIn 0 = .ok (.iload_n 1, 1) := by decide +kernel
theorem d_Heap_numberIn_1 : decode b_Heap_numberIn 1 = .ok (.ifCond .lt 14, 3) := by decide +kernel
theorem d_Heap_numberIn_4 : decode b_Heap_numberIn 4 = .ok (.iload_n 2, 1) := by decide +kernel
theorem d_Heap_numberIn_5 : decode b_Heap_numberIn 5 = .ok (.aload_n 0, 1) := by decide +kernel
theorem d_Heap_numberIn_6 : decode b_Heap_numberIn 6 = .ok (.arraylength, 1) := by decide +kernel
theorem d_Heap_numberIn_7 : decode b_Heap_numberIn 7 = .ok (.if_icmp .gt 8, 3) := by decide +kernel
theorem d_Heap_numberIn_10 : decode b_Heap_numberIn 10 = .ok (.iload_n 1, 1) := by decide +kernel
theorem d_Heap_numberIn_11 : decode b_Heap_numberIn 11 = .ok (.iload_n 2, 1) := by decide +kernel
theorem d_Heap_numberIn_12 : decode b_Heap_numberIn 12 = .ok (.if_icmp .lt 6, 3) := by decide +kernel
theorem d_Heap_numberIn_15 : decode b_Heap_numberIn 15 = .ok (.ldc 71, 2) := by decide +kernel
theorem d_Heap_numberIn_17 : decode b_Heap_numberIn 17 = .ok (.ireturn, 1) := by decide +kernel
theorem d_Heap_numberIn_18 : decode b_Heap_numberIn 18 = .ok (.aload_n 0, 1) := by decide +kernel
theorem d_Heap_numberIn_19 : decode b_Heap_numberIn 19 = .ok (.iload_n 1, 1) := by decide +kernel
theorem d_Heap_numberIn_20 : decode b_Heap_numberIn 20 = .ok (.iaload, 1) := by decide +kernel
theorem d_Heap_numberIn_21 : decode b_Heap_numberIn 21 = .ok (.bipush 45, 2) := by decide +kernel
theorem d_Heap_numberIn_23 : decode b_Heap_numberIn 23 = .ok (.if_icmp .ne 9, 3) := by decide +kernel
theorem d_Heap_numberIn_26 : decode b_Heap_numberIn 26 = .ok (.iload_n 1, 1) := by decide +kernel
theorem d_Heap_numberIn_27 : decode b_Heap_numberIn 27 = .ok (.iconst 1, 1) := by decide +kernel
theorem d_Heap_numberIn_28 : decode b_Heap_numberIn 28 = .ok (.iadd, 1) := by decide +kernel
theorem d_Heap_numberIn_29 : decode b_Heap_numberIn 29 = .ok (.goto 4, 3) := by decide +kernel
theorem d_Heap_numberIn_32 : decode b_Heap_numberIn 32 = .ok (.iload_n 1, 1) := by decide +kernel
theorem d_Heap_numberIn_33 : decode b_Heap_numberIn 33 = .ok (.istore_n 3, 1) := by decide +kernel
theorem d_Heap_numberIn_34 : decode b_Heap_numberIn 34 = .ok (.lconst 0, 1) := by decide +kernel
theorem d_Heap_numberIn_35 : decode b_Heap_numberIn 35 = .ok (.lstore 4, 2) := by decide +kernel
theorem d_Heap_numberIn_37 : decode b_Heap_numberIn 37 = .ok (.iload_n 3, 1) := by decide +kernel
theorem d_Heap_numberIn_38 : decode b_Heap_numberIn 38 = .ok (.istore 6, 2) := by decide +kernel
theorem d_Heap_numberIn_40 : decode b_Heap_numberIn 40 = .ok (.iload 6, 2) := by decide +kernel
theorem d_Heap_numberIn_42 : decode b_Heap_numberIn 42 = .ok (.iload_n 2, 1) := by decide +kernel
theorem d_Heap_numberIn_43 : decode b_Heap_numberIn 43 = .ok (.if_icmp .ge 51, 3) := by decide +kernel
theorem d_Heap_numberIn_46 : decode b_Heap_numberIn 46 = .ok (.aload_n 0, 1) := by decide +kernel
theorem d_Heap_numberIn_47 : decode b_Heap_numberIn 47 = .ok (.iload 6, 2) := by decide +kernel
theorem d_Heap_numberIn_49 : decode b_Heap_numberIn 49 = .ok (.iaload, 1) := by decide +kernel
theorem d_Heap_numberIn_50 : decode b_Heap_numberIn 50 = .ok (.bipush 48, 2) := by decide +kernel
theorem d_Heap_numberIn_52 : decode b_Heap_numberIn 52 = .ok (.isub, 1) := by decide +kernel
theorem d_Heap_numberIn_53 : decode b_Heap_numberIn 53 = .ok (.istore 7, 2) := by decide +kernel
theorem d_Heap_numberIn_55 : decode b_Heap_numberIn 55 = .ok (.iload 7, 2) := by decide +kernel
theorem d_Heap_numberIn_57 : decode b_Heap_numberIn 57 = .ok (.ifCond .lt 10, 3) := by decide +kernel
theorem d_Heap_numberIn_60 : decode b_Heap_numberIn 60 = .ok (.iload 7, 2) := by decide +kernel
theorem d_Heap_numberIn_62 : decode b_Heap_numberIn 62 = .ok (.bipush 9, 2) := by decide +kernel
theorem d_Heap_numberIn_64 : decode b_Heap_numberIn 64 = .ok (.if_icmp .le 6, 3) := by decide +kernel
theorem d_Heap_numberIn_67 : decode b_Heap_numberIn 67 = .ok (.ldc 71, 2) := by decide +kernel
theorem d_Heap_numberIn_69 : decode b_Heap_numberIn 69 = .ok (.ireturn, 1) := by decide +kernel
theorem d_Heap_numberIn_70 : decode b_Heap_numberIn 70 = .ok (.ldc2_w 72, 3) := by decide +kernel
theorem d_Heap_numberIn_73 : decode b_Heap_numberIn 73 = .ok (.lload 4, 2) := by decide +kernel
theorem d_Heap_numberIn_75 : decode b_Heap_numberIn 75 = .ok (.lmul, 1) := by decide +kernel
theorem d_Heap_numberIn_76 : decode b_Heap_numberIn 76 = .ok (.iload 7, 2) := by decide +kernel
theorem d_Heap_numberIn_78 : decode b_Heap_numberIn 78 = .ok (.i2l, 1) := by decide +kernel
theorem d_Heap_numberIn_79 : decode b_Heap_numberIn 79 = .ok (.ladd, 1) := by decide +kernel
theorem d_Heap_numberIn_80 : decode b_Heap_numberIn 80 = .ok (.ldc2_w 74, 3) := by decide +kernel
theorem d_Heap_numberIn_83 : decode b_Heap_numberIn 83 = .ok (.invokestatic 76, 3) := by decide +kernel
theorem d_Heap_numberIn_86 : decode b_Heap_numberIn 86 = .ok (.lstore 4, 2) := by decide +kernel
theorem d_Heap_numberIn_88 : decode b_Heap_numberIn 88 = .ok (.iinc 6 1, 3) := by decide +kernel
theorem d_Heap_numberIn_91 : decode b_Heap_numberIn 91 = .ok (.goto (-51), 3) := by decide +kernel
theorem d_Heap_numberIn_94 : decode b_Heap_numberIn 94 = .ok (.iload_n 3, 1) := by decide +kernel
theorem d_Heap_numberIn_95 : decode b_Heap_numberIn 95 = .ok (.iload_n 2, 1) := by decide +kernel
theorem d_Heap_numberIn_96 : decode b_Heap_numberIn 96 = .ok (.if_icmp .ne 6, 3) := by decide +kernel
theorem d_Heap_numberIn_99 : decode b_Heap_numberIn 99 = .ok (.ldc 71, 2) := by decide +kernel
theorem d_Heap_numberIn_101 : decode b_Heap_numberIn 101 = .ok (.ireturn, 1) := by decide +kernel
theorem d_Heap_numberIn_102 : decode b_Heap_numberIn 102 = .ok (.lload 4, 2) := by decide +kernel
theorem d_Heap_numberIn_104 : decode b_Heap_numberIn 104 = .ok (.ldc2_w 82, 3) := by decide +kernel
theorem d_Heap_numberIn_107 : decode b_Heap_numberIn 107 = .ok (.lcmp, 1) := by decide +kernel
theorem d_Heap_numberIn_108 : decode b_Heap_numberIn 108 = .ok (.ifCond .le 6, 3) := by decide +kernel
theorem d_Heap_numberIn_111 : decode b_Heap_numberIn 111 = .ok (.ldc 84, 2) := by decide +kernel
theorem d_Heap_numberIn_113 : decode b_Heap_numberIn 113 = .ok (.ireturn, 1) := by decide +kernel
theorem d_Heap_numberIn_114 : decode b_Heap_numberIn 114 = .ok (.iload_n 3, 1) := by decide +kernel
theorem d_Heap_numberIn_115 : decode b_Heap_numberIn 115 = .ok (.iload_n 1, 1) := by decide +kernel
theorem d_Heap_numberIn_116 : decode b_Heap_numberIn 116 = .ok (.if_icmp .le 9, 3) := by decide +kernel
theorem d_Heap_numberIn_119 : decode b_Heap_numberIn 119 = .ok (.lload 4, 2) := by decide +kernel
theorem d_Heap_numberIn_121 : decode b_Heap_numberIn 121 = .ok (.lneg, 1) := by decide +kernel
theorem d_Heap_numberIn_122 : decode b_Heap_numberIn 122 = .ok (.goto 5, 3) := by decide +kernel
theorem d_Heap_numberIn_125 : decode b_Heap_numberIn 125 = .ok (.lload 4, 2) := by decide +kernel
theorem d_Heap_numberIn_127 : decode b_Heap_numberIn 127 = .ok (.l2i, 1) := by decide +kernel
theorem d_Heap_numberIn_128 : decode b_Heap_numberIn 128 = .ok (.invokestatic 85, 3) := by decide +kernel
theorem d_Heap_numberIn_131 : decode b_Heap_numberIn 131 = .ok (.ireturn, 1) := by decide +kernel
theorem lk_Heap_82 : Cond.constantLong "TurtleWorld$Heap" 82 1000000000 ∈ tw_T := tw_i4 94 (by decide +kernel) (by decide +kernel)
theorem lk_Heap_85 : Cond.methodLink "TurtleWorld$Heap" 85 ⟨"TurtleWorld$Heap", "number", "(I)I"⟩ ∈ tw_T := tw_i4 96 (by decide +kernel) (by decide +kernel)
theorem st_Heap_number : Cond.static ⟨"TurtleWorld$Heap", "number", "(I)I"⟩ ∈ tw_T := tw_i4 97 (by decide +kernel) (by decide +kernel)
theorem lk_Heap_84 : Cond.constant "TurtleWorld$Heap" 84 (-2147483639) ∈ tw_T := tw_i4 95 (by decide +kernel) (by decide +kernel)
theorem lk_Heap_72 : Cond.constantLong "TurtleWorld$Heap" 72 10 ∈ tw_T := tw_i4 89 (by decide +kernel) (by decide +kernel)
theorem lk_Heap_74 : Cond.constantLong "TurtleWorld$Heap" 74 1000000001 ∈ tw_T := tw_i4 90 (by decide +kernel) (by decide +kernel)
theorem lk_Heap_76 : Cond.methodLink "TurtleWorld$Heap" 76 ⟨"java/lang/Math", "min", "(JJ)J"⟩ ∈ tw_T := tw_i4 91 (by decide +kernel) (by decide +kernel)
theorem st_Math_min2 : Cond.static ⟨"java/lang/Math", "min", "(JJ)J"⟩ ∈ tw_T := tw_i4 92 (by decide +kernel) (by decide +kernel)
theorem d_World_fault_0 : decode b_World_fault 0 = .ok (.aload_n 0, 1) := by decide +kernel
theorem d_World_fault_1 : decode b_World_fault 1 = .ok (.getfield 56, 3) := by decide +kernel
theorem d_World_fault_4 : decode b_World_fault 4 = .ok (.getfield 108, 3) := by decide +kernel
theorem d_World_fault_7 : decode b_World_fault 7 = .ok (.ifCond .ne 5, 3) := by decide +kernel
theorem d_World_fault_10 : decode b_World_fault 10 = .ok (.iconst (-1), 1) := by decide +kernel
theorem d_World_fault_11 : decode b_World_fault 11 = .ok (.ireturn, 1) := by decide +kernel
theorem d_World_fault_12 : decode b_World_fault 12 = .ok (.iload_n 1, 1) := by decide +kernel
theorem d_World_fault_13 : decode b_World_fault 13 = .ok (.ifCond .ne 11, 3) := by decide +kernel
theorem d_World_fault_16 : decode b_World_fault 16 = .ok (.aload_n 0, 1) := by decide +kernel
theorem d_World_fault_17 : decode b_World_fault 17 = .ok (.getfield 56, 3) := by decide +kernel
theorem d_World_fault_20 : decode b_World_fault 20 = .ok (.getfield 135, 3) := by decide +kernel
theorem d_World_fault_23 : decode b_World_fault 23 = .ok (.ireturn, 1) := by decide +kernel
theorem d_World_fault_24 : decode b_World_fault 24 = .ok (.iload_n 1, 1) := by decide +kernel
theorem d_World_fault_25 : decode b_World_fault 25 = .ok (.iconst 1, 1) := by decide +kernel
theorem d_World_fault_26 : decode b_World_fault 26 = .ok (.if_icmp .ne 13, 3) := by decide +kernel
theorem d_World_fault_29 : decode b_World_fault 29 = .ok (.aload_n 0, 1) := by decide +kernel
theorem d_World_fault_30 : decode b_World_fault 30 = .ok (.getfield 56, 3) := by decide +kernel
theorem d_World_fault_33 : decode b_World_fault 33 = .ok (.getfield 108, 3) := by decide +kernel
theorem d_World_fault_36 : decode b_World_fault 36 = .ok (.goto 4, 3) := by decide +kernel
theorem d_World_fault_39 : decode b_World_fault 39 = .ok (.iconst (-1), 1) := by decide +kernel
theorem d_World_fault_40 : decode b_World_fault 40 = .ok (.ireturn, 1) := by decide +kernel
theorem lk_World_108 : Cond.fieldLink "TurtleWorld" 108 "TurtleWorld$Reader" "faultKind" "I" ∈ tw_T := tw_i2 170 (by decide +kernel) (by decide +kernel)
theorem lk_World_135 : Cond.fieldLink "TurtleWorld" 135 "TurtleWorld$Reader" "faultPlace" "I" ∈ tw_T := tw_i2 168 (by decide +kernel) (by decide +kernel)
theorem d_Machine_waitingCount_0 : decode b_Machine_waitingCount 0 = .ok (.aload_n 0, 1) := by decide +kernel
theorem d_Machine_waitingCount_1 : decode b_Machine_waitingCount 1 = .ok (.getfield 22, 3) := by decide +kernel
theorem d_Machine_waitingCount_4 : decode b_Machine_waitingCount 4 = .ok (.getfield 42, 3) := by decide +kernel
theorem d_Machine_waitingCount_7 : decode b_Machine_waitingCount 7 = .ok (.ireturn, 1) := by decide +kernel
theorem lk_Machine_22 : Cond.fieldLink "TurtleWorld$Machine" 22 "TurtleWorld$Machine" "waiting" "LTurtleWorld$Waiting;" ∈ tw_T := tw_i3 168 (by decide +kernel) (by decide +kernel)
theorem lk_Machine_42 : Cond.fieldLink "TurtleWorld$Machine" 42 "TurtleWorld$Waiting" "count" "I" ∈ tw_T := tw_i3 96 (by decide +kernel) (by decide +kernel)
theorem d_World_look_0 : decode b_World_look 0 = .ok (.iload_n 1, 1) := by decide +kernel
theorem d_World_look_1 : decode b_World_look 1 = .ok (.tableswitch 183 0 13 #[71, 79, 87, 95, 103, 111, 119, 127, 135, 143, 151, 159, 167, 175], 71) := by decide +kernel
theorem d_World_look_72 : decode b_World_look 72 = .ok (.aload_n 0, 1) := by decide +kernel
theorem d_World_look_73 : decode b_World_look 73 = .ok (.getfield 63, 3) := by decide +kernel
theorem d_World_look_76 : decode b_World_look 76 = .ok (.getfield 100, 3) := by decide +kernel
theorem d_World_look_79 : decode b_World_look 79 = .ok (.ireturn, 1) := by decide +kernel
theorem d_World_look_80 : decode b_World_look 80 = .ok (.aload_n 0, 1) := by decide +kernel
theorem d_World_look_81 : decode b_World_look 81 = .ok (.getfield 63, 3) := by decide +kernel
theorem d_World_look_84 : decode b_World_look 84 = .ok (.getfield 151, 3) := by decide +kernel
theorem d_World_look_87 : decode b_World_look 87 = .ok (.ireturn, 1) := by decide +kernel
theorem d_World_look_88 : decode b_World_look 88 = .ok (.aload_n 0, 1) := by decide +kernel
theorem d_World_look_89 : decode b_World_look 89 = .ok (.getfield 63, 3) := by decide +kernel
theorem d_World_look_92 : decode b_World_look 92 = .ok (.getfield 141, 3) := by decide +kernel
theorem d_World_look_95 : decode b_World_look 95 = .ok (.ireturn, 1) := by decide +kernel
theorem d_World_look_96 : decode b_World_look 96 = .ok (.aload_n 0, 1) := by decide +kernel
theorem d_World_look_97 : decode b_World_look 97 = .ok (.getfield 63, 3) := by decide +kernel
theorem d_World_look_100 : decode b_World_look 100 = .ok (.getfield 154, 3) := by decide +kernel
theorem d_World_look_103 : decode b_World_look 103 = .ok (.ireturn, 1) := by decide +kernel
theorem d_World_look_104 : decode b_World_look 104 = .ok (.aload_n 0, 1) := by decide +kernel
theorem d_World_look_105 : decode b_World_look 105 = .ok (.getfield 84, 3) := by decide +kernel
theorem d_World_look_108 : decode b_World_look 108 = .ok (.invokevirtual 157, 3) := by decide +kernel
theorem d_World_look_111 : decode b_World_look 111 = .ok (.ireturn, 1) := by decide +kernel
theorem d_World_look_112 : decode b_World_look 112 = .ok (.aload_n 0, 1) := by decide +kernel
theorem d_World_look_113 : decode b_World_look 113 = .ok (.getfield 63, 3) := by decide +kernel
theorem d_World_look_116 : decode b_World_look 116 = .ok (.getfield 160, 3) := by decide +kernel
theorem d_World_look_119 : decode b_World_look 119 = .ok (.ireturn, 1) := by decide +kernel
theorem d_World_look_120 : decode b_World_look 120 = .ok (.aload_n 0, 1) := by decide +kernel
theorem d_World_look_121 : decode b_World_look 121 = .ok (.getfield 63, 3) := by decide +kernel
theorem d_World_look_124 : decode b_World_look 124 = .ok (.getfield 163, 3) := by decide +kernel
theorem d_World_look_127 : decode b_World_look 127 = .ok (.ireturn, 1) := by decide +kernel
theorem d_World_look_128 : decode b_World_look 128 = .ok (.aload_n 0, 1) := by decide +kernel
theorem d_World_look_129 : decode b_World_look 129 = .ok (.getfield 40, 3) := by decide +kernel
theorem d_World_look_132 : decode b_World_look 132 = .ok (.getfield 166, 3) := by decide +kernel
theorem d_World_look_135 : decode b_World_look 135 = .ok (.ireturn, 1) := by decide +kernel
theorem d_World_look_136 : decode b_World_look 136 = .ok (.aload_n 0, 1) := by decide +kernel
theorem d_World_look_137 : decode b_World_look 137 = .ok (.getfield 26, 3) := by decide +kernel
theorem d_World_look_140 : decode b_World_look 140 = .ok (.getfield 169, 3) := by decide +kernel
theorem d_World_look_143 : decode b_World_look 143 = .ok (.ireturn, 1) := by decide +kernel
theorem d_World_look_144 : decode b_World_look 144 = .ok (.aload_n 0, 1) := by decide +kernel
theorem d_World_look_145 : decode b_World_look 145 = .ok (.getfield 33, 3) := by decide +kernel
theorem d_World_look_148 : decode b_World_look 148 = .ok (.getfield 172, 3) := by decide +kernel
theorem d_World_look_151 : decode b_World_look 151 = .ok (.ireturn, 1) := by decide +kernel
theorem d_World_look_152 : decode b_World_look 152 = .ok (.aload_n 0, 1) := by decide +kernel
theorem d_World_look_153 : decode b_World_look 153 = .ok (.getfield 47, 3) := by decide +kernel
theorem d_World_look_156 : decode b_World_look 156 = .ok (.getfield 174, 3) := by decide +kernel
theorem d_World_look_159 : decode b_World_look 159 = .ok (.ireturn, 1) := by decide +kernel
theorem d_World_look_160 : decode b_World_look 160 = .ok (.aload_n 0, 1) := by decide +kernel
theorem d_World_look_161 : decode b_World_look 161 = .ok (.getfield 56, 3) := by decide +kernel
theorem d_World_look_164 : decode b_World_look 164 = .ok (.getfield 177, 3) := by decide +kernel
theorem d_World_look_167 : decode b_World_look 167 = .ok (.ireturn, 1) := by decide +kernel
theorem d_World_look_168 : decode b_World_look 168 = .ok (.aload_n 0, 1) := by decide +kernel
theorem d_World_look_169 : decode b_World_look 169 = .ok (.getfield 75, 3) := by decide +kernel
theorem d_World_look_172 : decode b_World_look 172 = .ok (.getfield 180, 3) := by decide +kernel
theorem d_World_look_175 : decode b_World_look 175 = .ok (.ireturn, 1) := by decide +kernel
theorem d_World_look_176 : decode b_World_look 176 = .ok (.aload_n 0, 1) := by decide +kernel
theorem d_World_look_177 : decode b_World_look 177 = .ok (.getfield 63, 3) := by decide +kernel
theorem d_World_look_180 : decode b_World_look 180 = .ok (.getfield 183, 3) := by decide +kernel
theorem d_World_look_183 : decode b_World_look 183 = .ok (.ireturn, 1) := by decide +kernel
theorem d_World_look_184 : decode b_World_look 184 = .ok (.iconst (-1), 1) := by decide +kernel
theorem d_World_look_185 : decode b_World_look 185 = .ok (.ireturn, 1) := by decide +kernel
theorem lk_World_63 : Cond.fieldLink "TurtleWorld" 63 "TurtleWorld" "line" "LTurtleWorld$Line;" ∈ tw_T := tw_i3 200 (by decide +kernel) (by decide +kernel)
theorem lk_World_100 : Cond.fieldLink "TurtleWorld" 100 "TurtleWorld$Line" "state" "I" ∈ tw_T := tw_i2 235 (by decide +kernel) (by decide +kernel)
theorem lk_World_151 : Cond.fieldLink "TurtleWorld" 151 "TurtleWorld$Line" "error" "I" ∈ tw_T := tw_i2 239 (by decide +kernel) (by decide +kernel)
theorem lk_World_141 : Cond.fieldLink "TurtleWorld" 141 "TurtleWorld$Line" "done" "I" ∈ tw_T := tw_i3 2 (by decide +kernel) (by decide +kernel)
theorem lk_World_154 : Cond.fieldLink "TurtleWorld" 154 "TurtleWorld$Line" "depth" "I" ∈ tw_T := tw_i3 12 (by decide +kernel) (by decide +kernel)
theorem lk_World_84 : Cond.fieldLink "TurtleWorld" 84 "TurtleWorld" "machine" "LTurtleWorld$Machine;" ∈ tw_T := tw_i3 202 (by decide +kernel) (by decide +kernel)
theorem lk_World_157 : Cond.methodLink "TurtleWorld" 157 ⟨"TurtleWorld$Machine", "waitingCount", "()I"⟩ ∈ tw_T := tw_i7 147 (by decide +kernel) (by decide +kernel)
theorem in_Machine_waitingCount : Cond.instanceMethod ⟨"TurtleWorld$Machine", "waitingCount", "()I"⟩ ∈ tw_T := tw_i7 148 (by decide +kernel) (by decide +kernel)
theorem sel_Machine_waitingCount : Cond.selects "TurtleWorld$Machine" ⟨"TurtleWorld$Machine", "waitingCount", "()I"⟩ ⟨"TurtleWorld$Machine", "waitingCount", "()I"⟩ ∈ tw_T := tw_i7 149 (by decide +kernel) (by decide +kernel)
theorem ini_Machine : Cond.initialized "TurtleWorld$Machine" ∈ tw_T := tw_i1 19 (by decide +kernel) (by decide +kernel)
theorem lk_World_160 : Cond.fieldLink "TurtleWorld" 160 "TurtleWorld$Line" "made" "I" ∈ tw_T := tw_i3 4 (by decide +kernel) (by decide +kernel)
theorem lk_World_163 : Cond.fieldLink "TurtleWorld" 163 "TurtleWorld$Line" "caught" "I" ∈ tw_T := tw_i3 9 (by decide +kernel) (by decide +kernel)
theorem lk_World_166 : Cond.fieldLink "TurtleWorld" 166 "TurtleWorld$Turtles" "told" "I" ∈ tw_T := tw_i2 91 (by decide +kernel) (by decide +kernel)
theorem lk_World_26 : Cond.fieldLink "TurtleWorld" 26 "TurtleWorld" "names" "LTurtleWorld$Names;" ∈ tw_T := tw_i3 195 (by decide +kernel) (by decide +kernel)
theorem lk_World_169 : Cond.fieldLink "TurtleWorld" 169 "TurtleWorld$Names" "globals" "I" ∈ tw_T := tw_i2 12 (by decide +kernel) (by decide +kernel)
theorem lk_World_33 : Cond.fieldLink "TurtleWorld" 33 "TurtleWorld" "procedures" "LTurtleWorld$Procedures;" ∈ tw_T := tw_i3 196 (by decide +kernel) (by decide +kernel)
theorem lk_World_172 : Cond.fieldLink "TurtleWorld" 172 "TurtleWorld$Procedures" "count" "I" ∈ tw_T := tw_i2 58 (by decide +kernel) (by decide +kernel)
theorem lk_World_47 : Cond.fieldLink "TurtleWorld" 47 "TurtleWorld" "output" "LTurtleWorld$Output;" ∈ tw_T := tw_i3 198 (by decide +kernel) (by decide +kernel)
theorem lk_World_174 : Cond.fieldLink "TurtleWorld" 174 "TurtleWorld$Output" "kept" "I" ∈ tw_T := tw_i2 124 (by decide +kernel) (by decide +kernel)
theorem lk_World_177 : Cond.fieldLink "TurtleWorld" 177 "TurtleWorld$Reader" "length" "I" ∈ tw_T := tw_i2 167 (by decide +kernel) (by decide +kernel)
theorem lk_World_75 : Cond.fieldLink "TurtleWorld" 75 "TurtleWorld" "deeds" "LTurtleWorld$Deeds;" ∈ tw_T := tw_i3 201 (by decide +kernel) (by decide +kernel)
theorem lk_World_180 : Cond.fieldLink "TurtleWorld" 180 "TurtleWorld$Deeds" "seed" "I" ∈ tw_T := tw_i3 142 (by decide +kernel) (by decide +kernel)
theorem lk_World_183 : Cond.fieldLink "TurtleWorld" 183 "TurtleWorld$Line" "calls" "I" ∈ tw_T := tw_i3 15 (by decide +kernel) (by decide +kernel)
