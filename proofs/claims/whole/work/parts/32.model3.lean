theorem d_Model_look_0 : decode b_Model_look 0 = .ok (.aload_n 0, 1) := by decide +kernel
theorem d_Model_look_1 : decode b_Model_look 1 = .ok (.iconst 0, 1) := by decide +kernel
theorem d_Model_look_2 : decode b_Model_look 2 = .ok (.putfield 1, 3) := by decide +kernel
theorem d_Model_look_5 : decode b_Model_look 5 = .ok (.iload_n 1, 1) := by decide +kernel
theorem d_Model_look_6 : decode b_Model_look 6 = .ok (.tableswitch 159 0 13 #[70, 75, 92, 97, 102, 107, 112, 117, 122, 127, 132, 144, 149, 154], 70) := by decide +kernel
theorem d_Model_look_76 : decode b_Model_look 76 = .ok (.aload_n 0, 1) := by decide +kernel
theorem d_Model_look_77 : decode b_Model_look 77 = .ok (.getfield 494, 3) := by decide +kernel
theorem d_Model_look_80 : decode b_Model_look 80 = .ok (.ireturn, 1) := by decide +kernel
theorem d_Model_look_81 : decode b_Model_look 81 = .ok (.aload_n 0, 1) := by decide +kernel
theorem d_Model_look_82 : decode b_Model_look 82 = .ok (.getfield 494, 3) := by decide +kernel
theorem d_Model_look_85 : decode b_Model_look 85 = .ok (.iconst 1, 1) := by decide +kernel
theorem d_Model_look_86 : decode b_Model_look 86 = .ok (.if_icmp .ne 7, 3) := by decide +kernel
theorem d_Model_look_89 : decode b_Model_look 89 = .ok (.iconst 0, 1) := by decide +kernel
theorem d_Model_look_90 : decode b_Model_look 90 = .ok (.goto 7, 3) := by decide +kernel
theorem d_Model_look_93 : decode b_Model_look 93 = .ok (.aload_n 0, 1) := by decide +kernel
theorem d_Model_look_94 : decode b_Model_look 94 = .ok (.getfield 550, 3) := by decide +kernel
theorem d_Model_look_97 : decode b_Model_look 97 = .ok (.ireturn, 1) := by decide +kernel
theorem d_Model_look_98 : decode b_Model_look 98 = .ok (.aload_n 0, 1) := by decide +kernel
theorem d_Model_look_99 : decode b_Model_look 99 = .ok (.getfield 523, 3) := by decide +kernel
theorem d_Model_look_102 : decode b_Model_look 102 = .ok (.ireturn, 1) := by decide +kernel
theorem d_Model_look_103 : decode b_Model_look 103 = .ok (.aload_n 0, 1) := by decide +kernel
theorem d_Model_look_104 : decode b_Model_look 104 = .ok (.getfield 532, 3) := by decide +kernel
theorem d_Model_look_107 : decode b_Model_look 107 = .ok (.ireturn, 1) := by decide +kernel
theorem d_Model_look_108 : decode b_Model_look 108 = .ok (.aload_n 0, 1) := by decide +kernel
theorem d_Model_look_109 : decode b_Model_look 109 = .ok (.getfield 535, 3) := by decide +kernel
theorem d_Model_look_112 : decode b_Model_look 112 = .ok (.ireturn, 1) := by decide +kernel
theorem d_Model_look_113 : decode b_Model_look 113 = .ok (.aload_n 0, 1) := by decide +kernel
theorem d_Model_look_114 : decode b_Model_look 114 = .ok (.getfield 556, 3) := by decide +kernel
theorem d_Model_look_117 : decode b_Model_look 117 = .ok (.ireturn, 1) := by decide +kernel
theorem d_Model_look_118 : decode b_Model_look 118 = .ok (.aload_n 0, 1) := by decide +kernel
theorem d_Model_look_119 : decode b_Model_look 119 = .ok (.getfield 553, 3) := by decide +kernel
theorem d_Model_look_122 : decode b_Model_look 122 = .ok (.ireturn, 1) := by decide +kernel
theorem d_Model_look_123 : decode b_Model_look 123 = .ok (.aload_n 0, 1) := by decide +kernel
theorem d_Model_look_124 : decode b_Model_look 124 = .ok (.getfield 366, 3) := by decide +kernel
theorem d_Model_look_127 : decode b_Model_look 127 = .ok (.ireturn, 1) := by decide +kernel
theorem d_Model_look_128 : decode b_Model_look 128 = .ok (.aload_n 0, 1) := by decide +kernel
theorem d_Model_look_129 : decode b_Model_look 129 = .ok (.getfield 350, 3) := by decide +kernel
theorem d_Model_look_132 : decode b_Model_look 132 = .ok (.ireturn, 1) := by decide +kernel
theorem d_Model_look_133 : decode b_Model_look 133 = .ok (.aload_n 0, 1) := by decide +kernel
theorem d_Model_look_134 : decode b_Model_look 134 = .ok (.getfield 344, 3) := by decide +kernel
theorem d_Model_look_137 : decode b_Model_look 137 = .ok (.ireturn, 1) := by decide +kernel
theorem d_Model_look_138 : decode b_Model_look 138 = .ok (.aload_n 0, 1) := by decide +kernel
theorem d_Model_look_139 : decode b_Model_look 139 = .ok (.getfield 356, 3) := by decide +kernel
theorem d_Model_look_142 : decode b_Model_look 142 = .ok (.ldc2_w 789, 3) := by decide +kernel
theorem d_Model_look_145 : decode b_Model_look 145 = .ok (.invokestatic 140, 3) := by decide +kernel
theorem d_Model_look_148 : decode b_Model_look 148 = .ok (.l2i, 1) := by decide +kernel
theorem d_Model_look_149 : decode b_Model_look 149 = .ok (.ireturn, 1) := by decide +kernel
theorem d_Model_look_150 : decode b_Model_look 150 = .ok (.aload_n 0, 1) := by decide +kernel
theorem d_Model_look_151 : decode b_Model_look 151 = .ok (.getfield 409, 3) := by decide +kernel
theorem d_Model_look_154 : decode b_Model_look 154 = .ok (.ireturn, 1) := by decide +kernel
theorem d_Model_look_155 : decode b_Model_look 155 = .ok (.aload_n 0, 1) := by decide +kernel
theorem d_Model_look_156 : decode b_Model_look 156 = .ok (.getfield 331, 3) := by decide +kernel
theorem d_Model_look_159 : decode b_Model_look 159 = .ok (.ireturn, 1) := by decide +kernel
theorem d_Model_look_160 : decode b_Model_look 160 = .ok (.aload_n 0, 1) := by decide +kernel
theorem d_Model_look_161 : decode b_Model_look 161 = .ok (.getfield 538, 3) := by decide +kernel
theorem d_Model_look_164 : decode b_Model_look 164 = .ok (.ireturn, 1) := by decide +kernel
theorem d_Model_look_165 : decode b_Model_look 165 = .ok (.iconst (-1), 1) := by decide +kernel
theorem d_Model_look_166 : decode b_Model_look 166 = .ok (.ireturn, 1) := by decide +kernel
theorem lk_Model_550 : Cond.fieldLink "TurtleWorldModel" 550 "TurtleWorldModel" "error" "I" ∈ tw_T := tw_i8 172 (by decide +kernel) (by decide +kernel)
theorem lk_Model_553 : Cond.fieldLink "TurtleWorldModel" 553 "TurtleWorldModel" "lastError" "I" ∈ tw_T := tw_i8 173 (by decide +kernel) (by decide +kernel)
theorem lk_Model_350 : Cond.fieldLink "TurtleWorldModel" 350 "TurtleWorldModel" "globals" "I" ∈ tw_T := tw_i8 114 (by decide +kernel) (by decide +kernel)
theorem lk_Model_344 : Cond.fieldLink "TurtleWorldModel" 344 "TurtleWorldModel" "procs" "I" ∈ tw_T := tw_i8 111 (by decide +kernel) (by decide +kernel)
theorem lk_Model_356 : Cond.fieldLink "TurtleWorldModel" 356 "TurtleWorldModel" "outs" "J" ∈ tw_T := tw_i8 126 (by decide +kernel) (by decide +kernel)
theorem lk_Model_789 : Cond.constantLong "TurtleWorldModel" 789 2000 ∈ tw_T := tw_i11 167 (by decide +kernel) (by decide +kernel)
theorem lk_Model_140 : Cond.methodLink "TurtleWorldModel" 140 ⟨"java/lang/Math", "min", "(JJ)J"⟩ ∈ tw_T := tw_i10 27 (by decide +kernel) (by decide +kernel)
theorem lk_Model_331 : Cond.fieldLink "TurtleWorldModel" 331 "TurtleWorldModel" "seed" "I" ∈ tw_T := tw_i8 124 (by decide +kernel) (by decide +kernel)
theorem d_Model_feed_0 : decode b_Model_feed 0 = .ok (.aload_n 0, 1) := by decide +kernel
theorem d_Model_feed_1 : decode b_Model_feed 1 = .ok (.iconst 0, 1) := by decide +kernel
theorem d_Model_feed_2 : decode b_Model_feed 2 = .ok (.putfield 1, 3) := by decide +kernel
theorem d_Model_feed_5 : decode b_Model_feed 5 = .ok (.aload_n 0, 1) := by decide +kernel
theorem d_Model_feed_6 : decode b_Model_feed 6 = .ok (.getfield 409, 3) := by decide +kernel
theorem d_Model_feed_9 : decode b_Model_feed 9 = .ok (.bipush 20, 2) := by decide +kernel
theorem d_Model_feed_11 : decode b_Model_feed 11 = .ok (.iadd, 1) := by decide +kernel
theorem d_Model_feed_12 : decode b_Model_feed 12 = .ok (.sipush 4000, 3) := by decide +kernel
theorem d_Model_feed_15 : decode b_Model_feed 15 = .ok (.if_icmp .le 5, 3) := by decide +kernel
theorem d_Model_feed_18 : decode b_Model_feed 18 = .ok (.iconst 0, 1) := by decide +kernel
theorem d_Model_feed_19 : decode b_Model_feed 19 = .ok (.ireturn, 1) := by decide +kernel
theorem d_Model_feed_20 : decode b_Model_feed 20 = .ok (.iconst 0, 1) := by decide +kernel
theorem d_Model_feed_21 : decode b_Model_feed 21 = .ok (.istore 6, 2) := by decide +kernel
theorem d_Model_feed_23 : decode b_Model_feed 23 = .ok (.iload 6, 2) := by decide +kernel
theorem d_Model_feed_25 : decode b_Model_feed 25 = .ok (.bipush 20, 2) := by decide +kernel
theorem d_Model_feed_27 : decode b_Model_feed 27 = .ok (.if_icmp .ge 90, 3) := by decide +kernel
theorem d_Model_feed_30 : decode b_Model_feed 30 = .ok (.iload 6, 2) := by decide +kernel
theorem d_Model_feed_32 : decode b_Model_feed 32 = .ok (.iconst 4, 1) := by decide +kernel
theorem d_Model_feed_33 : decode b_Model_feed 33 = .ok (.if_icmp .ge 7, 3) := by decide +kernel
theorem d_Model_feed_36 : decode b_Model_feed 36 = .ok (.iload_n 1, 1) := by decide +kernel
theorem d_Model_feed_37 : decode b_Model_feed 37 = .ok (.goto 39, 3) := by decide +kernel
theorem d_Model_feed_40 : decode b_Model_feed 40 = .ok (.iload 6, 2) := by decide +kernel
theorem d_Model_feed_42 : decode b_Model_feed 42 = .ok (.bipush 8, 2) := by decide +kernel
theorem d_Model_feed_44 : decode b_Model_feed 44 = .ok (.if_icmp .ge 7, 3) := by decide +kernel
theorem d_Model_feed_47 : decode b_Model_feed 47 = .ok (.iload_n 2, 1) := by decide +kernel
theorem d_Model_feed_48 : decode b_Model_feed 48 = .ok (.goto 28, 3) := by decide +kernel
theorem d_Model_feed_51 : decode b_Model_feed 51 = .ok (.iload 6, 2) := by decide +kernel
theorem d_Model_feed_53 : decode b_Model_feed 53 = .ok (.bipush 12, 2) := by decide +kernel
theorem d_Model_feed_55 : decode b_Model_feed 55 = .ok (.if_icmp .ge 7, 3) := by decide +kernel
theorem d_Model_feed_58 : decode b_Model_feed 58 = .ok (.iload_n 3, 1) := by decide +kernel
theorem d_Model_feed_59 : decode b_Model_feed 59 = .ok (.goto 17, 3) := by decide +kernel
theorem d_Model_feed_62 : decode b_Model_feed 62 = .ok (.iload 6, 2) := by decide +kernel
theorem d_Model_feed_64 : decode b_Model_feed 64 = .ok (.bipush 16, 2) := by decide +kernel
theorem d_Model_feed_66 : decode b_Model_feed 66 = .ok (.if_icmp .ge 8, 3) := by decide +kernel
theorem d_Model_feed_69 : decode b_Model_feed 69 = .ok (.iload 4, 2) := by decide +kernel
theorem d_Model_feed_71 : decode b_Model_feed 71 = .ok (.goto 5, 3) := by decide +kernel
theorem d_Model_feed_74 : decode b_Model_feed 74 = .ok (.iload 5, 2) := by decide +kernel
theorem d_Model_feed_76 : decode b_Model_feed 76 = .ok (.istore 7, 2) := by decide +kernel
theorem d_Model_feed_78 : decode b_Model_feed 78 = .ok (.aload_n 0, 1) := by decide +kernel
theorem d_Model_feed_79 : decode b_Model_feed 79 = .ok (.getfield 261, 3) := by decide +kernel
theorem d_Model_feed_82 : decode b_Model_feed 82 = .ok (.aload_n 0, 1) := by decide +kernel
theorem d_Model_feed_83 : decode b_Model_feed 83 = .ok (.getfield 409, 3) := by decide +kernel
theorem d_Model_feed_86 : decode b_Model_feed 86 = .ok (.iload 7, 2) := by decide +kernel
theorem d_Model_feed_88 : decode b_Model_feed 88 = .ok (.bipush 24, 2) := by decide +kernel
theorem d_Model_feed_90 : decode b_Model_feed 90 = .ok (.bipush 8, 2) := by decide +kernel
theorem d_Model_feed_92 : decode b_Model_feed 92 = .ok (.iload 6, 2) := by decide +kernel
theorem d_Model_feed_94 : decode b_Model_feed 94 = .ok (.iconst 4, 1) := by decide +kernel
theorem d_Model_feed_95 : decode b_Model_feed 95 = .ok (.irem, 1) := by decide +kernel
theorem d_Model_feed_96 : decode b_Model_feed 96 = .ok (.imul, 1) := by decide +kernel
theorem d_Model_feed_97 : decode b_Model_feed 97 = .ok (.isub, 1) := by decide +kernel
theorem d_Model_feed_98 : decode b_Model_feed 98 = .ok (.ishr, 1) := by decide +kernel
theorem d_Model_feed_99 : decode b_Model_feed 99 = .ok (.i2b, 1) := by decide +kernel
theorem d_Model_feed_100 : decode b_Model_feed 100 = .ok (.bastore, 1) := by decide +kernel
theorem d_Model_feed_101 : decode b_Model_feed 101 = .ok (.aload_n 0, 1) := by decide +kernel
theorem d_Model_feed_102 : decode b_Model_feed 102 = .ok (.dup, 1) := by decide +kernel
theorem d_Model_feed_103 : decode b_Model_feed 103 = .ok (.getfield 409, 3) := by decide +kernel
theorem d_Model_feed_106 : decode b_Model_feed 106 = .ok (.iconst 1, 1) := by decide +kernel
theorem d_Model_feed_107 : decode b_Model_feed 107 = .ok (.iadd, 1) := by decide +kernel
theorem d_Model_feed_108 : decode b_Model_feed 108 = .ok (.putfield 409, 3) := by decide +kernel
theorem d_Model_feed_111 : decode b_Model_feed 111 = .ok (.iinc 6 1, 3) := by decide +kernel
theorem d_Model_feed_114 : decode b_Model_feed 114 = .ok (.goto (-91), 3) := by decide +kernel
theorem d_Model_feed_117 : decode b_Model_feed 117 = .ok (.iconst 1, 1) := by decide +kernel
theorem d_Model_feed_118 : decode b_Model_feed 118 = .ok (.ireturn, 1) := by decide +kernel
theorem lk_Model_261 : Cond.fieldLink "TurtleWorldModel" 261 "TurtleWorldModel" "tape" "[B" ∈ tw_T := tw_i8 151 (by decide +kernel) (by decide +kernel)
