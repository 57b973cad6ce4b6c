theorem d_Turtles_floorRoot_0 : decode b_Turtles_floorRoot 0 = .ok (.lload_n 0, 1) := by decide +kernel
theorem d_Turtles_floorRoot_1 : decode b_Turtles_floorRoot 1 = .ok (.lconst 0, 1) := by decide +kernel
theorem d_Turtles_floorRoot_2 : decode b_Turtles_floorRoot 2 = .ok (.lcmp, 1) := by decide +kernel
theorem d_Turtles_floorRoot_3 : decode b_Turtles_floorRoot 3 = .ok (.ifCond .ge 8, 3) := by decide +kernel
theorem d_Turtles_floorRoot_6 : decode b_Turtles_floorRoot 6 = .ok (.lload_n 0, 1) := by decide +kernel
theorem d_Turtles_floorRoot_7 : decode b_Turtles_floorRoot 7 = .ok (.lneg, 1) := by decide +kernel
theorem d_Turtles_floorRoot_8 : decode b_Turtles_floorRoot 8 = .ok (.goto 4, 3) := by decide +kernel
theorem d_Turtles_floorRoot_11 : decode b_Turtles_floorRoot 11 = .ok (.lload_n 0, 1) := by decide +kernel
theorem d_Turtles_floorRoot_12 : decode b_Turtles_floorRoot 12 = .ok (.lstore_n 2, 1) := by decide +kernel
theorem d_Turtles_floorRoot_13 : decode b_Turtles_floorRoot 13 = .ok (.ldc2_w 38, 3) := by decide +kernel
theorem d_Turtles_floorRoot_16 : decode b_Turtles_floorRoot 16 = .ok (.lload_n 2, 1) := by decide +kernel
theorem d_Turtles_floorRoot_17 : decode b_Turtles_floorRoot 17 = .ok (.lmul, 1) := by decide +kernel
theorem d_Turtles_floorRoot_18 : decode b_Turtles_floorRoot 18 = .ok (.lload_n 2, 1) := by decide +kernel
theorem d_Turtles_floorRoot_19 : decode b_Turtles_floorRoot 19 = .ok (.lmul, 1) := by decide +kernel
theorem d_Turtles_floorRoot_20 : decode b_Turtles_floorRoot 20 = .ok (.lstore 4, 2) := by decide +kernel
theorem d_Turtles_floorRoot_22 : decode b_Turtles_floorRoot 22 = .ok (.lload_n 2, 1) := by decide +kernel
theorem d_Turtles_floorRoot_23 : decode b_Turtles_floorRoot 23 = .ok (.ldc2_w 40, 3) := by decide +kernel
theorem d_Turtles_floorRoot_26 : decode b_Turtles_floorRoot 26 = .ok (.lmul, 1) := by decide +kernel
theorem d_Turtles_floorRoot_27 : decode b_Turtles_floorRoot 27 = .ok (.ldc2_w 42, 3) := by decide +kernel
theorem d_Turtles_floorRoot_30 : decode b_Turtles_floorRoot 30 = .ok (.ldiv, 1) := by decide +kernel
theorem d_Turtles_floorRoot_31 : decode b_Turtles_floorRoot 31 = .ok (.lstore 6, 2) := by decide +kernel
theorem d_Turtles_floorRoot_33 : decode b_Turtles_floorRoot 33 = .ok (.lload 6, 2) := by decide +kernel
theorem d_Turtles_floorRoot_35 : decode b_Turtles_floorRoot 35 = .ok (.lconst 1, 1) := by decide +kernel
theorem d_Turtles_floorRoot_36 : decode b_Turtles_floorRoot 36 = .ok (.ladd, 1) := by decide +kernel
theorem d_Turtles_floorRoot_37 : decode b_Turtles_floorRoot 37 = .ok (.lload 6, 2) := by decide +kernel
theorem d_Turtles_floorRoot_39 : decode b_Turtles_floorRoot 39 = .ok (.lconst 1, 1) := by decide +kernel
theorem d_Turtles_floorRoot_40 : decode b_Turtles_floorRoot 40 = .ok (.ladd, 1) := by decide +kernel
theorem d_Turtles_floorRoot_41 : decode b_Turtles_floorRoot 41 = .ok (.lmul, 1) := by decide +kernel
theorem d_Turtles_floorRoot_42 : decode b_Turtles_floorRoot 42 = .ok (.lload 4, 2) := by decide +kernel
theorem d_Turtles_floorRoot_44 : decode b_Turtles_floorRoot 44 = .ok (.lcmp, 1) := by decide +kernel
theorem d_Turtles_floorRoot_45 : decode b_Turtles_floorRoot 45 = .ok (.ifCond .gt 9, 3) := by decide +kernel
theorem d_Turtles_floorRoot_48 : decode b_Turtles_floorRoot 48 = .ok (.lload 6, 2) := by decide +kernel
theorem d_Turtles_floorRoot_50 : decode b_Turtles_floorRoot 50 = .ok (.lconst 1, 1) := by decide +kernel
theorem d_Turtles_floorRoot_51 : decode b_Turtles_floorRoot 51 = .ok (.ladd, 1) := by decide +kernel
theorem d_Turtles_floorRoot_52 : decode b_Turtles_floorRoot 52 = .ok (.lstore 6, 2) := by decide +kernel
theorem d_Turtles_floorRoot_54 : decode b_Turtles_floorRoot 54 = .ok (.lload_n 0, 1) := by decide +kernel
theorem d_Turtles_floorRoot_55 : decode b_Turtles_floorRoot 55 = .ok (.lconst 0, 1) := by decide +kernel
theorem d_Turtles_floorRoot_56 : decode b_Turtles_floorRoot 56 = .ok (.lcmp, 1) := by decide +kernel
theorem d_Turtles_floorRoot_57 : decode b_Turtles_floorRoot 57 = .ok (.ifCond .ge 11, 3) := by decide +kernel
theorem d_Turtles_floorRoot_60 : decode b_Turtles_floorRoot 60 = .ok (.lload 6, 2) := by decide +kernel
theorem d_Turtles_floorRoot_62 : decode b_Turtles_floorRoot 62 = .ok (.lneg, 1) := by decide +kernel
theorem d_Turtles_floorRoot_63 : decode b_Turtles_floorRoot 63 = .ok (.lconst 1, 1) := by decide +kernel
theorem d_Turtles_floorRoot_64 : decode b_Turtles_floorRoot 64 = .ok (.lsub, 1) := by decide +kernel
theorem d_Turtles_floorRoot_65 : decode b_Turtles_floorRoot 65 = .ok (.goto 5, 3) := by decide +kernel
theorem d_Turtles_floorRoot_68 : decode b_Turtles_floorRoot 68 = .ok (.lload 6, 2) := by decide +kernel
theorem d_Turtles_floorRoot_70 : decode b_Turtles_floorRoot 70 = .ok (.lreturn, 1) := by decide +kernel
theorem lk_Turtles_38 : Cond.constantLong "TurtleWorld$Turtles" 38 3 ∈ tw_T := tw_i6 38 (by decide +kernel) (by decide +kernel)
theorem lk_Turtles_40 : Cond.constantLong "TurtleWorld$Turtles" 40 1732050807 ∈ tw_T := tw_i6 39 (by decide +kernel) (by decide +kernel)
theorem lk_Turtles_42 : Cond.constantLong "TurtleWorld$Turtles" 42 1000000000 ∈ tw_T := tw_i6 40 (by decide +kernel) (by decide +kernel)
theorem d_Turtles_floorHalf_0 : decode b_Turtles_floorHalf 0 = .ok (.lload_n 0, 1) := by decide +kernel
theorem d_Turtles_floorHalf_1 : decode b_Turtles_floorHalf 1 = .ok (.lload_n 2, 1) := by decide +kernel
theorem d_Turtles_floorHalf_2 : decode b_Turtles_floorHalf 2 = .ok (.invokestatic 44, 3) := by decide +kernel
theorem d_Turtles_floorHalf_5 : decode b_Turtles_floorHalf 5 = .ok (.ladd, 1) := by decide +kernel
theorem d_Turtles_floorHalf_6 : decode b_Turtles_floorHalf 6 = .ok (.ldc2_w 48, 3) := by decide +kernel
theorem d_Turtles_floorHalf_9 : decode b_Turtles_floorHalf 9 = .ok (.invokestatic 50, 3) := by decide +kernel
theorem d_Turtles_floorHalf_12 : decode b_Turtles_floorHalf 12 = .ok (.lreturn, 1) := by decide +kernel
theorem lk_Turtles_44 : Cond.methodLink "TurtleWorld$Turtles" 44 ⟨"TurtleWorld$Turtles", "floorRoot", "(J)J"⟩ ∈ tw_T := tw_i6 35 (by decide +kernel) (by decide +kernel)
theorem st_Turtles_floorRoot : Cond.static ⟨"TurtleWorld$Turtles", "floorRoot", "(J)J"⟩ ∈ tw_T := tw_i6 36 (by decide +kernel) (by decide +kernel)
theorem lk_Turtles_48 : Cond.constantLong "TurtleWorld$Turtles" 48 2 ∈ tw_T := tw_i6 41 (by decide +kernel) (by decide +kernel)
theorem lk_Turtles_50 : Cond.methodLink "TurtleWorld$Turtles" 50 ⟨"java/lang/Math", "floorDiv", "(JJ)J"⟩ ∈ tw_T := tw_i6 42 (by decide +kernel) (by decide +kernel)
theorem st_Math_floorDiv : Cond.static ⟨"java/lang/Math", "floorDiv", "(JJ)J"⟩ ∈ tw_T := tw_i6 43 (by decide +kernel) (by decide +kernel)
theorem ini_Math : Cond.initialized "java/lang/Math" ∈ tw_T := tw_i1 8 (by decide +kernel) (by decide +kernel)
theorem d_Turtles_sideOf_0 : decode b_Turtles_sideOf 0 = .ok (.ldc2_w 48, 3) := by decide +kernel
theorem d_Turtles_sideOf_3 : decode b_Turtles_sideOf 3 = .ok (.iload_n 2, 1) := by decide +kernel
theorem d_Turtles_sideOf_4 : decode b_Turtles_sideOf 4 = .ok (.i2l, 1) := by decide +kernel
theorem d_Turtles_sideOf_5 : decode b_Turtles_sideOf 5 = .ok (.lmul, 1) := by decide +kernel
theorem d_Turtles_sideOf_6 : decode b_Turtles_sideOf 6 = .ok (.iload_n 0, 1) := by decide +kernel
theorem d_Turtles_sideOf_7 : decode b_Turtles_sideOf 7 = .ok (.i2l, 1) := by decide +kernel
theorem d_Turtles_sideOf_8 : decode b_Turtles_sideOf 8 = .ok (.lsub, 1) := by decide +kernel
theorem d_Turtles_sideOf_9 : decode b_Turtles_sideOf 9 = .ok (.lstore_n 3, 1) := by decide +kernel
theorem d_Turtles_sideOf_10 : decode b_Turtles_sideOf 10 = .ok (.iload_n 1, 1) := by decide +kernel
theorem d_Turtles_sideOf_11 : decode b_Turtles_sideOf 11 = .ok (.ifCond .ne 9, 3) := by decide +kernel
theorem d_Turtles_sideOf_14 : decode b_Turtles_sideOf 14 = .ok (.lconst 0, 1) := by decide +kernel
theorem d_Turtles_sideOf_15 : decode b_Turtles_sideOf 15 = .ok (.lload_n 3, 1) := by decide +kernel
theorem d_Turtles_sideOf_16 : decode b_Turtles_sideOf 16 = .ok (.invokestatic 56, 3) := by decide +kernel
theorem d_Turtles_sideOf_19 : decode b_Turtles_sideOf 19 = .ok (.ireturn, 1) := by decide +kernel
theorem d_Turtles_sideOf_20 : decode b_Turtles_sideOf 20 = .ok (.iload_n 1, 1) := by decide +kernel
theorem d_Turtles_sideOf_21 : decode b_Turtles_sideOf 21 = .ok (.i2l, 1) := by decide +kernel
theorem d_Turtles_sideOf_22 : decode b_Turtles_sideOf 22 = .ok (.invokestatic 44, 3) := by decide +kernel
theorem d_Turtles_sideOf_25 : decode b_Turtles_sideOf 25 = .ok (.lload_n 3, 1) := by decide +kernel
theorem d_Turtles_sideOf_26 : decode b_Turtles_sideOf 26 = .ok (.lcmp, 1) := by decide +kernel
theorem d_Turtles_sideOf_27 : decode b_Turtles_sideOf 27 = .ok (.ifCond .ge 7, 3) := by decide +kernel
theorem d_Turtles_sideOf_30 : decode b_Turtles_sideOf 30 = .ok (.iconst (-1), 1) := by decide +kernel
theorem d_Turtles_sideOf_31 : decode b_Turtles_sideOf 31 = .ok (.goto 4, 3) := by decide +kernel
theorem d_Turtles_sideOf_34 : decode b_Turtles_sideOf 34 = .ok (.iconst 1, 1) := by decide +kernel
theorem d_Turtles_sideOf_35 : decode b_Turtles_sideOf 35 = .ok (.ireturn, 1) := by decide +kernel
theorem lk_Turtles_56 : Cond.methodLink "TurtleWorld$Turtles" 56 ⟨"java/lang/Long", "compare", "(JJ)I"⟩ ∈ tw_T := tw_i6 54 (by decide +kernel) (by decide +kernel)
theorem st_Long_compare : Cond.static ⟨"java/lang/Long", "compare", "(JJ)I"⟩ ∈ tw_T := tw_i6 55 (by decide +kernel) (by decide +kernel)
theorem ini_Long : Cond.initialized "java/lang/Long" ∈ tw_T := tw_i1 21 (by decide +kernel) (by decide +kernel)
theorem d_Turtles_floorOf_0 : decode b_Turtles_floorOf 0 = .ok (.aload_n 0, 1) := by decide +kernel
theorem d_Turtles_floorOf_1 : decode b_Turtles_floorOf 1 = .ok (.aload_n 0, 1) := by decide +kernel
theorem d_Turtles_floorOf_2 : decode b_Turtles_floorOf 2 = .ok (.getfield 34, 3) := by decide +kernel
theorem d_Turtles_floorOf_5 : decode b_Turtles_floorOf 5 = .ok (.iconst 2, 1) := by decide +kernel
theorem d_Turtles_floorOf_6 : decode b_Turtles_floorOf 6 = .ok (.iload_n 1, 1) := by decide +kernel
theorem d_Turtles_floorOf_7 : decode b_Turtles_floorOf 7 = .ok (.imul, 1) := by decide +kernel
theorem d_Turtles_floorOf_8 : decode b_Turtles_floorOf 8 = .ok (.invokevirtual 119, 3) := by decide +kernel
theorem d_Turtles_floorOf_11 : decode b_Turtles_floorOf 11 = .ok (.i2l, 1) := by decide +kernel
theorem d_Turtles_floorOf_12 : decode b_Turtles_floorOf 12 = .ok (.aload_n 0, 1) := by decide +kernel
theorem d_Turtles_floorOf_13 : decode b_Turtles_floorOf 13 = .ok (.aload_n 0, 1) := by decide +kernel
theorem d_Turtles_floorOf_14 : decode b_Turtles_floorOf 14 = .ok (.getfield 34, 3) := by decide +kernel
theorem d_Turtles_floorOf_17 : decode b_Turtles_floorOf 17 = .ok (.iconst 2, 1) := by decide +kernel
theorem d_Turtles_floorOf_18 : decode b_Turtles_floorOf 18 = .ok (.iload_n 1, 1) := by decide +kernel
theorem d_Turtles_floorOf_19 : decode b_Turtles_floorOf 19 = .ok (.imul, 1) := by decide +kernel
theorem d_Turtles_floorOf_20 : decode b_Turtles_floorOf 20 = .ok (.iconst 1, 1) := by decide +kernel
theorem d_Turtles_floorOf_21 : decode b_Turtles_floorOf 21 = .ok (.iadd, 1) := by decide +kernel
theorem d_Turtles_floorOf_22 : decode b_Turtles_floorOf 22 = .ok (.invokevirtual 119, 3) := by decide +kernel
theorem d_Turtles_floorOf_25 : decode b_Turtles_floorOf 25 = .ok (.i2l, 1) := by decide +kernel
theorem d_Turtles_floorOf_26 : decode b_Turtles_floorOf 26 = .ok (.invokestatic 84, 3) := by decide +kernel
theorem d_Turtles_floorOf_29 : decode b_Turtles_floorOf 29 = .ok (.l2i, 1) := by decide +kernel
theorem d_Turtles_floorOf_30 : decode b_Turtles_floorOf 30 = .ok (.ireturn, 1) := by decide +kernel
theorem lk_Turtles_84 : Cond.methodLink "TurtleWorld$Turtles" 84 ⟨"TurtleWorld$Turtles", "floorHalf", "(JJ)J"⟩ ∈ tw_T := tw_i6 32 (by decide +kernel) (by decide +kernel)
theorem st_Turtles_floorHalf : Cond.static ⟨"TurtleWorld$Turtles", "floorHalf", "(JJ)J"⟩ ∈ tw_T := tw_i6 33 (by decide +kernel) (by decide +kernel)
theorem d_Turtles_turnTo_0 : decode b_Turtles_turnTo 0 = .ok (.iload_n 2, 1) := by decide +kernel
theorem d_Turtles_turnTo_1 : decode b_Turtles_turnTo 1 = .ok (.bipush 30, 2) := by decide +kernel
theorem d_Turtles_turnTo_3 : decode b_Turtles_turnTo 3 = .ok (.irem, 1) := by decide +kernel
theorem d_Turtles_turnTo_4 : decode b_Turtles_turnTo 4 = .ok (.ifCond .eq 6, 3) := by decide +kernel
theorem d_Turtles_turnTo_7 : decode b_Turtles_turnTo 7 = .ok (.ldc 62, 2) := by decide +kernel
theorem d_Turtles_turnTo_9 : decode b_Turtles_turnTo 9 = .ok (.ireturn, 1) := by decide +kernel
theorem d_Turtles_turnTo_10 : decode b_Turtles_turnTo 10 = .ok (.aload_n 0, 1) := by decide +kernel
theorem d_Turtles_turnTo_11 : decode b_Turtles_turnTo 11 = .ok (.iconst 4, 1) := by decide +kernel
theorem d_Turtles_turnTo_12 : decode b_Turtles_turnTo 12 = .ok (.iload_n 1, 1) := by decide +kernel
theorem d_Turtles_turnTo_13 : decode b_Turtles_turnTo 13 = .ok (.iload_n 2, 1) := by decide +kernel
theorem d_Turtles_turnTo_14 : decode b_Turtles_turnTo 14 = .ok (.bipush 30, 2) := by decide +kernel
theorem d_Turtles_turnTo_16 : decode b_Turtles_turnTo 16 = .ok (.idiv, 1) := by decide +kernel
theorem d_Turtles_turnTo_17 : decode b_Turtles_turnTo 17 = .ok (.iadd, 1) := by decide +kernel
theorem d_Turtles_turnTo_18 : decode b_Turtles_turnTo 18 = .ok (.bipush 12, 2) := by decide +kernel
theorem d_Turtles_turnTo_20 : decode b_Turtles_turnTo 20 = .ok (.invokestatic 63, 3) := by decide +kernel
theorem d_Turtles_turnTo_23 : decode b_Turtles_turnTo 23 = .ok (.invokevirtual 122, 3) := by decide +kernel
theorem d_Turtles_turnTo_26 : decode b_Turtles_turnTo 26 = .ok (.ldc 83, 2) := by decide +kernel
theorem d_Turtles_turnTo_28 : decode b_Turtles_turnTo 28 = .ok (.ireturn, 1) := by decide +kernel
theorem lk_Turtles_63 : Cond.methodLink "TurtleWorld$Turtles" 63 ⟨"java/lang/Math", "floorMod", "(II)I"⟩ ∈ tw_T := tw_i6 20 (by decide +kernel) (by decide +kernel)
theorem st_Math_floorMod : Cond.static ⟨"java/lang/Math", "floorMod", "(II)I"⟩ ∈ tw_T := tw_i6 21 (by decide +kernel) (by decide +kernel)
theorem d_Turtles_turnBy_0 : decode b_Turtles_turnBy 0 = .ok (.aload_n 0, 1) := by decide +kernel
theorem d_Turtles_turnBy_1 : decode b_Turtles_turnBy 1 = .ok (.aload_n 0, 1) := by decide +kernel
theorem d_Turtles_turnBy_2 : decode b_Turtles_turnBy 2 = .ok (.aload_n 0, 1) := by decide +kernel
theorem d_Turtles_turnBy_3 : decode b_Turtles_turnBy 3 = .ok (.getfield 34, 3) := by decide +kernel
theorem d_Turtles_turnBy_6 : decode b_Turtles_turnBy 6 = .ok (.iconst 4, 1) := by decide +kernel
theorem d_Turtles_turnBy_7 : decode b_Turtles_turnBy 7 = .ok (.invokevirtual 119, 3) := by decide +kernel
theorem d_Turtles_turnBy_10 : decode b_Turtles_turnBy 10 = .ok (.iload_n 1, 1) := by decide +kernel
theorem d_Turtles_turnBy_11 : decode b_Turtles_turnBy 11 = .ok (.invokevirtual 125, 3) := by decide +kernel
theorem d_Turtles_turnBy_14 : decode b_Turtles_turnBy 14 = .ok (.ireturn, 1) := by decide +kernel
theorem lk_Turtles_125 : Cond.methodLink "TurtleWorld$Turtles" 125 ⟨"TurtleWorld$Turtles", "turnTo", "(II)I"⟩ ∈ tw_T := tw_i6 77 (by decide +kernel) (by decide +kernel)
theorem in_Turtles_turnTo : Cond.instanceMethod ⟨"TurtleWorld$Turtles", "turnTo", "(II)I"⟩ ∈ tw_T := tw_i6 78 (by decide +kernel) (by decide +kernel)
theorem sel_Turtles_turnTo : Cond.selects "TurtleWorld$Turtles" ⟨"TurtleWorld$Turtles", "turnTo", "(II)I"⟩ ⟨"TurtleWorld$Turtles", "turnTo", "(II)I"⟩ ∈ tw_T := tw_i6 79 (by decide +kernel) (by decide +kernel)
theorem d_Turtles_colourBelow_0 : decode b_Turtles_colourBelow 0 = .ok (.aload_n 0, 1) := by decide +kernel
theorem d_Turtles_colourBelow_1 : decode b_Turtles_colourBelow 1 = .ok (.aload_n 0, 1) := by decide +kernel
theorem d_Turtles_colourBelow_2 : decode b_Turtles_colourBelow 2 = .ok (.getfield 34, 3) := by decide +kernel
theorem d_Turtles_colourBelow_5 : decode b_Turtles_colourBelow 5 = .ok (.iconst 0, 1) := by decide +kernel
theorem d_Turtles_colourBelow_6 : decode b_Turtles_colourBelow 6 = .ok (.invokevirtual 119, 3) := by decide +kernel
theorem d_Turtles_colourBelow_9 : decode b_Turtles_colourBelow 9 = .ok (.iconst 1, 1) := by decide +kernel
theorem d_Turtles_colourBelow_10 : decode b_Turtles_colourBelow 10 = .ok (.iadd, 1) := by decide +kernel
theorem d_Turtles_colourBelow_11 : decode b_Turtles_colourBelow 11 = .ok (.i2l, 1) := by decide +kernel
theorem d_Turtles_colourBelow_12 : decode b_Turtles_colourBelow 12 = .ok (.aload_n 0, 1) := by decide +kernel
theorem d_Turtles_colourBelow_13 : decode b_Turtles_colourBelow 13 = .ok (.aload_n 0, 1) := by decide +kernel
theorem d_Turtles_colourBelow_14 : decode b_Turtles_colourBelow 14 = .ok (.getfield 34, 3) := by decide +kernel
theorem d_Turtles_colourBelow_17 : decode b_Turtles_colourBelow 17 = .ok (.iconst 1, 1) := by decide +kernel
theorem d_Turtles_colourBelow_18 : decode b_Turtles_colourBelow 18 = .ok (.invokevirtual 119, 3) := by decide +kernel
theorem d_Turtles_colourBelow_21 : decode b_Turtles_colourBelow 21 = .ok (.i2l, 1) := by decide +kernel
theorem d_Turtles_colourBelow_22 : decode b_Turtles_colourBelow 22 = .ok (.invokestatic 84, 3) := by decide +kernel
theorem d_Turtles_colourBelow_25 : decode b_Turtles_colourBelow 25 = .ok (.lstore_n 1, 1) := by decide +kernel
theorem d_Turtles_colourBelow_26 : decode b_Turtles_colourBelow 26 = .ok (.aload_n 0, 1) := by decide +kernel
theorem d_Turtles_colourBelow_27 : decode b_Turtles_colourBelow 27 = .ok (.aload_n 0, 1) := by decide +kernel
theorem d_Turtles_colourBelow_28 : decode b_Turtles_colourBelow 28 = .ok (.getfield 34, 3) := by decide +kernel
theorem d_Turtles_colourBelow_31 : decode b_Turtles_colourBelow 31 = .ok (.iconst 2, 1) := by decide +kernel
theorem d_Turtles_colourBelow_32 : decode b_Turtles_colourBelow 32 = .ok (.invokevirtual 119, 3) := by decide +kernel
theorem d_Turtles_colourBelow_35 : decode b_Turtles_colourBelow 35 = .ok (.iconst 1, 1) := by decide +kernel
theorem d_Turtles_colourBelow_36 : decode b_Turtles_colourBelow 36 = .ok (.iadd, 1) := by decide +kernel
theorem d_Turtles_colourBelow_37 : decode b_Turtles_colourBelow 37 = .ok (.i2l, 1) := by decide +kernel
theorem d_Turtles_colourBelow_38 : decode b_Turtles_colourBelow 38 = .ok (.aload_n 0, 1) := by decide +kernel
theorem d_Turtles_colourBelow_39 : decode b_Turtles_colourBelow 39 = .ok (.aload_n 0, 1) := by decide +kernel
theorem d_Turtles_colourBelow_40 : decode b_Turtles_colourBelow 40 = .ok (.getfield 34, 3) := by decide +kernel
theorem d_Turtles_colourBelow_43 : decode b_Turtles_colourBelow 43 = .ok (.iconst 3, 1) := by decide +kernel
theorem d_Turtles_colourBelow_44 : decode b_Turtles_colourBelow 44 = .ok (.invokevirtual 119, 3) := by decide +kernel
theorem d_Turtles_colourBelow_47 : decode b_Turtles_colourBelow 47 = .ok (.i2l, 1) := by decide +kernel
theorem d_Turtles_colourBelow_48 : decode b_Turtles_colourBelow 48 = .ok (.invokestatic 84, 3) := by decide +kernel
theorem d_Turtles_colourBelow_51 : decode b_Turtles_colourBelow 51 = .ok (.lstore_n 3, 1) := by decide +kernel
theorem d_Turtles_colourBelow_52 : decode b_Turtles_colourBelow 52 = .ok (.lload_n 1, 1) := by decide +kernel
theorem d_Turtles_colourBelow_53 : decode b_Turtles_colourBelow 53 = .ok (.lload_n 3, 1) := by decide +kernel
theorem d_Turtles_colourBelow_54 : decode b_Turtles_colourBelow 54 = .ok (.invokestatic 115, 3) := by decide +kernel
theorem d_Turtles_colourBelow_57 : decode b_Turtles_colourBelow 57 = .ok (.ifCond .eq 18, 3) := by decide +kernel
theorem d_Turtles_colourBelow_60 : decode b_Turtles_colourBelow 60 = .ok (.aload_n 0, 1) := by decide +kernel
theorem d_Turtles_colourBelow_61 : decode b_Turtles_colourBelow 61 = .ok (.getfield 15, 3) := by decide +kernel
theorem d_Turtles_colourBelow_64 : decode b_Turtles_colourBelow 64 = .ok (.lload_n 1, 1) := by decide +kernel
theorem d_Turtles_colourBelow_65 : decode b_Turtles_colourBelow 65 = .ok (.l2i, 1) := by decide +kernel
theorem d_Turtles_colourBelow_66 : decode b_Turtles_colourBelow 66 = .ok (.lload_n 3, 1) := by decide +kernel
theorem d_Turtles_colourBelow_67 : decode b_Turtles_colourBelow 67 = .ok (.l2i, 1) := by decide +kernel
theorem d_Turtles_colourBelow_68 : decode b_Turtles_colourBelow 68 = .ok (.invokestatic 110, 3) := by decide +kernel
theorem d_Turtles_colourBelow_71 : decode b_Turtles_colourBelow 71 = .ok (.iaload, 1) := by decide +kernel
theorem d_Turtles_colourBelow_72 : decode b_Turtles_colourBelow 72 = .ok (.goto 4, 3) := by decide +kernel
theorem d_Turtles_colourBelow_75 : decode b_Turtles_colourBelow 75 = .ok (.iconst 0, 1) := by decide +kernel
theorem d_Turtles_colourBelow_76 : decode b_Turtles_colourBelow 76 = .ok (.ireturn, 1) := by decide +kernel
theorem d_Turtles_atOnePlace_0 : decode b_Turtles_atOnePlace 0 = .ok (.iconst 0, 1) := by decide +kernel
theorem d_Turtles_atOnePlace_1 : decode b_Turtles_atOnePlace 1 = .ok (.istore_n 3, 1) := by decide +kernel
theorem d_Turtles_atOnePlace_2 : decode b_Turtles_atOnePlace 2 = .ok (.iload_n 3, 1) := by decide +kernel
theorem d_Turtles_atOnePlace_3 : decode b_Turtles_atOnePlace 3 = .ok (.iconst 4, 1) := by decide +kernel
theorem d_Turtles_atOnePlace_4 : decode b_Turtles_atOnePlace 4 = .ok (.if_icmp .ge 26, 3) := by decide +kernel
theorem d_Turtles_atOnePlace_7 : decode b_Turtles_atOnePlace 7 = .ok (.aload_n 0, 1) := by decide +kernel
theorem d_Turtles_atOnePlace_8 : decode b_Turtles_atOnePlace 8 = .ok (.iload_n 1, 1) := by decide +kernel
theorem d_Turtles_atOnePlace_9 : decode b_Turtles_atOnePlace 9 = .ok (.iload_n 3, 1) := by decide +kernel
theorem d_Turtles_atOnePlace_10 : decode b_Turtles_atOnePlace 10 = .ok (.invokevirtual 119, 3) := by decide +kernel
theorem d_Turtles_atOnePlace_13 : decode b_Turtles_atOnePlace 13 = .ok (.aload_n 0, 1) := by decide +kernel
theorem d_Turtles_atOnePlace_14 : decode b_Turtles_atOnePlace 14 = .ok (.iload_n 2, 1) := by decide +kernel
theorem d_Turtles_atOnePlace_15 : decode b_Turtles_atOnePlace 15 = .ok (.iload_n 3, 1) := by decide +kernel
theorem d_Turtles_atOnePlace_16 : decode b_Turtles_atOnePlace 16 = .ok (.invokevirtual 119, 3) := by decide +kernel
theorem d_Turtles_atOnePlace_19 : decode b_Turtles_atOnePlace 19 = .ok (.if_icmp .eq 5, 3) := by decide +kernel
theorem d_Turtles_atOnePlace_22 : decode b_Turtles_atOnePlace 22 = .ok (.iconst 0, 1) := by decide +kernel
theorem d_Turtles_atOnePlace_23 : decode b_Turtles_atOnePlace 23 = .ok (.ireturn, 1) := by decide +kernel
theorem d_Turtles_atOnePlace_24 : decode b_Turtles_atOnePlace 24 = .ok (.iinc 3 1, 3) := by decide +kernel
theorem d_Turtles_atOnePlace_27 : decode b_Turtles_atOnePlace 27 = .ok (.goto (-25), 3) := by decide +kernel
theorem d_Turtles_atOnePlace_30 : decode b_Turtles_atOnePlace 30 = .ok (.iconst 1, 1) := by decide +kernel
theorem d_Turtles_atOnePlace_31 : decode b_Turtles_atOnePlace 31 = .ok (.ireturn, 1) := by decide +kernel
theorem d_Turtles_wipe_0 : decode b_Turtles_wipe 0 = .ok (.aload_n 0, 1) := by decide +kernel
theorem d_Turtles_wipe_1 : decode b_Turtles_wipe 1 = .ok (.getfield 15, 3) := by decide +kernel
theorem d_Turtles_wipe_4 : decode b_Turtles_wipe 4 = .ok (.iconst 0, 1) := by decide +kernel
theorem d_Turtles_wipe_5 : decode b_Turtles_wipe 5 = .ok (.invokestatic 131, 3) := by decide +kernel
theorem d_Turtles_wipe_8 : decode b_Turtles_wipe 8 = .ok (.ldc 83, 2) := by decide +kernel
theorem d_Turtles_wipe_10 : decode b_Turtles_wipe 10 = .ok (.ireturn, 1) := by decide +kernel
theorem lk_Turtles_131 : Cond.methodLink "TurtleWorld$Turtles" 131 ⟨"java/util/Arrays", "fill", "([II)V"⟩ ∈ tw_T := tw_i6 107 (by decide +kernel) (by decide +kernel)
theorem st_Arrays_fill : Cond.static ⟨"java/util/Arrays", "fill", "([II)V"⟩ ∈ tw_T := tw_i6 108 (by decide +kernel) (by decide +kernel)
theorem ini_Arrays : Cond.initialized "java/util/Arrays" ∈ tw_T := tw_i1 9 (by decide +kernel) (by decide +kernel)
theorem d_Turtles_keep_0 : decode b_Turtles_keep 0 = .ok (.aload_n 0, 1) := by decide +kernel
theorem d_Turtles_keep_1 : decode b_Turtles_keep 1 = .ok (.getfield 11, 3) := by decide +kernel
theorem d_Turtles_keep_4 : decode b_Turtles_keep 4 = .ok (.iconst 0, 1) := by decide +kernel
theorem d_Turtles_keep_5 : decode b_Turtles_keep 5 = .ok (.aload_n 0, 1) := by decide +kernel
theorem d_Turtles_keep_6 : decode b_Turtles_keep 6 = .ok (.getfield 24, 3) := by decide +kernel
theorem d_Turtles_keep_9 : decode b_Turtles_keep 9 = .ok (.iconst 0, 1) := by decide +kernel
theorem d_Turtles_keep_10 : decode b_Turtles_keep 10 = .ok (.aload_n 0, 1) := by decide +kernel
theorem d_Turtles_keep_11 : decode b_Turtles_keep 11 = .ok (.getfield 11, 3) := by decide +kernel
theorem d_Turtles_keep_14 : decode b_Turtles_keep 14 = .ok (.arraylength, 1) := by decide +kernel
theorem d_Turtles_keep_15 : decode b_Turtles_keep 15 = .ok (.invokestatic 77, 3) := by decide +kernel
theorem d_Turtles_keep_18 : decode b_Turtles_keep 18 = .ok (.aload_n 0, 1) := by decide +kernel
theorem d_Turtles_keep_19 : decode b_Turtles_keep 19 = .ok (.getfield 15, 3) := by decide +kernel
theorem d_Turtles_keep_22 : decode b_Turtles_keep 22 = .ok (.iconst 0, 1) := by decide +kernel
theorem d_Turtles_keep_23 : decode b_Turtles_keep 23 = .ok (.aload_n 0, 1) := by decide +kernel
theorem d_Turtles_keep_24 : decode b_Turtles_keep 24 = .ok (.getfield 27, 3) := by decide +kernel
theorem d_Turtles_keep_27 : decode b_Turtles_keep 27 = .ok (.iconst 0, 1) := by decide +kernel
theorem d_Turtles_keep_28 : decode b_Turtles_keep 28 = .ok (.aload_n 0, 1) := by decide +kernel
theorem d_Turtles_keep_29 : decode b_Turtles_keep 29 = .ok (.getfield 15, 3) := by decide +kernel
theorem d_Turtles_keep_32 : decode b_Turtles_keep 32 = .ok (.arraylength, 1) := by decide +kernel
theorem d_Turtles_keep_33 : decode b_Turtles_keep 33 = .ok (.invokestatic 77, 3) := by decide +kernel
theorem d_Turtles_keep_36 : decode b_Turtles_keep 36 = .ok (.aload_n 0, 1) := by decide +kernel
theorem d_Turtles_keep_37 : decode b_Turtles_keep 37 = .ok (.aload_n 0, 1) := by decide +kernel
theorem d_Turtles_keep_38 : decode b_Turtles_keep 38 = .ok (.getfield 34, 3) := by decide +kernel
theorem d_Turtles_keep_41 : decode b_Turtles_keep 41 = .ok (.putfield 137, 3) := by decide +kernel
theorem d_Turtles_keep_44 : decode b_Turtles_keep 44 = .ok (.return_, 1) := by decide +kernel
theorem lk_Turtles_24 : Cond.fieldLink "TurtleWorld$Turtles" 24 "TurtleWorld$Turtles" "keptParts" "[I" ∈ tw_T := tw_i2 94 (by decide +kernel) (by decide +kernel)
theorem lk_Turtles_77 : Cond.methodLink "TurtleWorld$Turtles" 77 ⟨"java/lang/System", "arraycopy", "(Ljava/lang/Object;ILjava/lang/Object;II)V"⟩ ∈ tw_T := tw_i4 234 (by decide +kernel) (by decide +kernel)
theorem na_arraycopy : Cond.native ⟨"java/lang/System", "arraycopy", "(Ljava/lang/Object;ILjava/lang/Object;II)V"⟩ ∈ tw_T := tw_i1 183 (by decide +kernel) (by decide +kernel)
theorem st_arraycopy : Cond.static ⟨"java/lang/System", "arraycopy", "(Ljava/lang/Object;ILjava/lang/Object;II)V"⟩ ∈ tw_T := tw_i1 182 (by decide +kernel) (by decide +kernel)
theorem ini_System : Cond.initialized "java/lang/System" ∈ tw_T := tw_i1 10 (by decide +kernel) (by decide +kernel)
theorem lk_Turtles_27 : Cond.fieldLink "TurtleWorld$Turtles" 27 "TurtleWorld$Turtles" "keptDots" "[I" ∈ tw_T := tw_i2 95 (by decide +kernel) (by decide +kernel)
theorem lk_Turtles_137 : Cond.fieldLink "TurtleWorld$Turtles" 137 "TurtleWorld$Turtles" "keptTold" "I" ∈ tw_T := tw_i2 96 (by decide +kernel) (by decide +kernel)
theorem d_Turtles_takeBack_0 : decode b_Turtles_takeBack 0 = .ok (.aload_n 0, 1) := by decide +kernel
theorem d_Turtles_takeBack_1 : decode b_Turtles_takeBack 1 = .ok (.getfield 24, 3) := by decide +kernel
theorem d_Turtles_takeBack_4 : decode b_Turtles_takeBack 4 = .ok (.iconst 0, 1) := by decide +kernel
theorem d_Turtles_takeBack_5 : decode b_Turtles_takeBack 5 = .ok (.aload_n 0, 1) := by decide +kernel
theorem d_Turtles_takeBack_6 : decode b_Turtles_takeBack 6 = .ok (.getfield 11, 3) := by decide +kernel
theorem d_Turtles_takeBack_9 : decode b_Turtles_takeBack 9 = .ok (.iconst 0, 1) := by decide +kernel
theorem d_Turtles_takeBack_10 : decode b_Turtles_takeBack 10 = .ok (.aload_n 0, 1) := by decide +kernel
theorem d_Turtles_takeBack_11 : decode b_Turtles_takeBack 11 = .ok (.getfield 11, 3) := by decide +kernel
theorem d_Turtles_takeBack_14 : decode b_Turtles_takeBack 14 = .ok (.arraylength, 1) := by decide +kernel
theorem d_Turtles_takeBack_15 : decode b_Turtles_takeBack 15 = .ok (.invokestatic 77, 3) := by decide +kernel
theorem d_Turtles_takeBack_18 : decode b_Turtles_takeBack 18 = .ok (.aload_n 0, 1) := by decide +kernel
theorem d_Turtles_takeBack_19 : decode b_Turtles_takeBack 19 = .ok (.getfield 27, 3) := by decide +kernel
theorem d_Turtles_takeBack_22 : decode b_Turtles_takeBack 22 = .ok (.iconst 0, 1) := by decide +kernel
theorem d_Turtles_takeBack_23 : decode b_Turtles_takeBack 23 = .ok (.aload_n 0, 1) := by decide +kernel
theorem d_Turtles_takeBack_24 : decode b_Turtles_takeBack 24 = .ok (.getfield 15, 3) := by decide +kernel
theorem d_Turtles_takeBack_27 : decode b_Turtles_takeBack 27 = .ok (.iconst 0, 1) := by decide +kernel
theorem d_Turtles_takeBack_28 : decode b_Turtles_takeBack 28 = .ok (.aload_n 0, 1) := by decide +kernel
theorem d_Turtles_takeBack_29 : decode b_Turtles_takeBack 29 = .ok (.getfield 15, 3) := by decide +kernel
theorem d_Turtles_takeBack_32 : decode b_Turtles_takeBack 32 = .ok (.arraylength, 1) := by decide +kernel
theorem d_Turtles_takeBack_33 : decode b_Turtles_takeBack 33 = .ok (.invokestatic 77, 3) := by decide +kernel
theorem d_Turtles_takeBack_36 : decode b_Turtles_takeBack 36 = .ok (.aload_n 0, 1) := by decide +kernel
theorem d_Turtles_takeBack_37 : decode b_Turtles_takeBack 37 = .ok (.aload_n 0, 1) := by decide +kernel
theorem d_Turtles_takeBack_38 : decode b_Turtles_takeBack 38 = .ok (.getfield 137, 3) := by decide +kernel
theorem d_Turtles_takeBack_41 : decode b_Turtles_takeBack 41 = .ok (.putfield 34, 3) := by decide +kernel
theorem d_Turtles_takeBack_44 : decode b_Turtles_takeBack 44 = .ok (.return_, 1) := by decide +kernel
theorem d_World_turtle_0 : decode b_World_turtle 0 = .ok (.iload_n 1, 1) := by decide +kernel
theorem d_World_turtle_1 : decode b_World_turtle 1 = .ok (.invokestatic 186, 3) := by decide +kernel
theorem d_World_turtle_4 : decode b_World_turtle 4 = .ok (.ifCond .eq 12, 3) := by decide +kernel
theorem d_World_turtle_7 : decode b_World_turtle 7 = .ok (.iload_n 2, 1) := by decide +kernel
theorem d_World_turtle_8 : decode b_World_turtle 8 = .ok (.ifCond .lt 8, 3) := by decide +kernel
theorem d_World_turtle_11 : decode b_World_turtle 11 = .ok (.iload_n 2, 1) := by decide +kernel
theorem d_World_turtle_12 : decode b_World_turtle 12 = .ok (.iconst 2, 1) := by decide +kernel
theorem d_World_turtle_13 : decode b_World_turtle 13 = .ok (.if_icmp .le 5, 3) := by decide +kernel
theorem d_World_turtle_16 : decode b_World_turtle 16 = .ok (.iconst (-1), 1) := by decide +kernel
theorem d_World_turtle_17 : decode b_World_turtle 17 = .ok (.ireturn, 1) := by decide +kernel
theorem d_World_turtle_18 : decode b_World_turtle 18 = .ok (.aload_n 0, 1) := by decide +kernel
theorem d_World_turtle_19 : decode b_World_turtle 19 = .ok (.getfield 40, 3) := by decide +kernel
theorem d_World_turtle_22 : decode b_World_turtle 22 = .ok (.iload_n 1, 1) := by decide +kernel
theorem d_World_turtle_23 : decode b_World_turtle 23 = .ok (.iconst 4, 1) := by decide +kernel
theorem d_World_turtle_24 : decode b_World_turtle 24 = .ok (.iload_n 2, 1) := by decide +kernel
theorem d_World_turtle_25 : decode b_World_turtle 25 = .ok (.iadd, 1) := by decide +kernel
theorem d_World_turtle_26 : decode b_World_turtle 26 = .ok (.invokevirtual 192, 3) := by decide +kernel
theorem d_World_turtle_29 : decode b_World_turtle 29 = .ok (.istore_n 3, 1) := by decide +kernel
theorem d_World_turtle_30 : decode b_World_turtle 30 = .ok (.iload_n 2, 1) := by decide +kernel
theorem d_World_turtle_31 : decode b_World_turtle 31 = .ok (.ifCond .ne 10, 3) := by decide +kernel
theorem d_World_turtle_34 : decode b_World_turtle 34 = .ok (.bipush 30, 2) := by decide +kernel
theorem d_World_turtle_36 : decode b_World_turtle 36 = .ok (.iload_n 3, 1) := by decide +kernel
theorem d_World_turtle_37 : decode b_World_turtle 37 = .ok (.imul, 1) := by decide +kernel
theorem d_World_turtle_38 : decode b_World_turtle 38 = .ok (.goto 4, 3) := by decide +kernel
theorem d_World_turtle_41 : decode b_World_turtle 41 = .ok (.iload_n 3, 1) := by decide +kernel
theorem d_World_turtle_42 : decode b_World_turtle 42 = .ok (.ireturn, 1) := by decide +kernel
theorem lk_World_186 : Cond.methodLink "TurtleWorld" 186 ⟨"TurtleWorld$Turtles", "exists", "(I)Z"⟩ ∈ tw_T := tw_i7 155 (by decide +kernel) (by decide +kernel)
theorem lk_World_192 : Cond.methodLink "TurtleWorld" 192 ⟨"TurtleWorld$Turtles", "part", "(II)I"⟩ ∈ tw_T := tw_i7 156 (by decide +kernel) (by decide +kernel)
def m_Turtles_floorRoot_r (q : Int64) : Int64 := if ((0 : Int32)) ≤ ((lg_cmp q 0)) then if ((0 : Int32)) < ((lg_cmp ((((q * 1732050807) / 1000000000) + 1) * (((q * 1732050807) / 1000000000) + 1)) ((3 * q) * q))) then ((q * 1732050807) / 1000000000) else (((q * 1732050807) / 1000000000) + 1) else if ((0 : Int32)) < ((lg_cmp (((((-q) * 1732050807) / 1000000000) + 1) * ((((-q) * 1732050807) / 1000000000) + 1)) ((3 * (-q)) * (-q)))) then (-(((-q) * 1732050807) / 1000000000)) - 1 else (-((((-q) * 1732050807) / 1000000000) + 1)) - 1
set_option maxHeartbeats 4000000 in
set_option maxRecDepth 100000 in
/-- floor(q * r) -/
theorem c_Turtles_floorRoot (l : Launch) (dC : Nat → ClassId) (dI : Nat → Nat → Nat) (sz : Nat) (q : Int64)  : Met l y_Turtles_floorRoot w_Turtles_floorRoot ({ frames := 0, cells := 0, slots := 0, locals := 0 }) (va_Pc [.long q] (fun U => U.heap.size = sz ∧ va_P (dC, dI) classes ([] : va_W) U.heap ∧ va_K (dC, dI) classes [] U ∧ va_D (fun _ => True) ([] : va_W))) (va_Ql (fun (r : Int64) (_ : Unit) => r = m_Turtles_floorRoot_r q) (fun (_ : Unit) t => va_P (dC, dI) classes ([] : va_W) t.heap ∧ va_K (dC, dI) classes [] t ∧ va_D (va_A ([] : va_W) sz) ([] : va_W)) (va_A ([] : va_W) sz)) 0 0 (va_A ([] : va_W) sz) := by
  refine Met.ofW (cc := b_Turtles_floorRoot) (maxL := 8) (ret := (some .long)) (by decide) rfl ?_
  intro p e s m args below meth c s₁ B hml hv
  obtain ⟨rfl, hsz, hP, hK, hD0⟩ := hv
  have hx := B.exec
  have hb := B.bytes
  have hr := B.returns
  have hts := atoms_spec (ws := w_Turtles_floorRoot) B.pre
  have htt : ∀ w ∈ tw_T, w.before _ s = true := fun w h => hts w (List.mem_cons_of_mem _ h)
  have hown : s.vm.findClass R_Turtles = some m.cls := findClass_of_methodNamed B.named
  have hlocks := B.notSynchronized
  subst hsz
  have hD := hD0.self (sz := s.heap.size)
  generalize hAe : va_A ([] : va_W) s.heap.size = A at hD ⊢
  have hA : ∀ q : Nat, s.heap.size ≤ q → A q := fun q h => by rw [← hAe]; exact Or.inr h
  have hS : va_S A s.heap s.heap [] := va_S.rf
  have hP : va_P (dC, dI) classes ([] : va_W) s.heap := hP
  have hl := lv_entry ([.long q]) (n := 8) (Nat.le_of_ble_eq_true rfl)
  rw [lg_entry_eq]
  generalize (lg_sl ([.long q]) ++ List.replicate (8 - (lg_sl ([.long q])).length) Slot.unset).toArray = ls at hl ⊢
  have hl : lv_has ls 8 [(0, .long q)] := hl
  refine lv_lload_n hx hb d_Turtles_floorRoot_0 rfl (lv_at hl 0 rfl) ?_
  refine lv_lconst (v := 0) hx hb d_Turtles_floorRoot_1 (by decide) ?_
  refine W.lcmp hx hb d_Turtles_floorRoot_2 ?_
  refine lv_if_ge (tgt := 11) hx hb d_Turtles_floorRoot_3 (by decide) (fun c_1 => ?_) (fun c_1 => ?_)
  · refine lv_lload_n hx hb d_Turtles_floorRoot_11 rfl (lv_at hl 0 rfl) ?_
    refine lv_lstore_n (lv' := [(2, .long q), (0, .long q)]) hx hb d_Turtles_floorRoot_12 rfl hl (by decide) rfl (fun ls hl => ?_)
    refine lv_ldc2 (v := 3) hx hb hown (htt _ lk_Turtles_38) d_Turtles_floorRoot_13 ?_
    refine lv_lload_n hx hb d_Turtles_floorRoot_16 rfl (lv_at hl 0 rfl) ?_
    refine lv_lmul hx hb d_Turtles_floorRoot_17 ?_
    refine lv_lload_n hx hb d_Turtles_floorRoot_18 rfl (lv_at hl 0 rfl) ?_
    refine lv_lmul hx hb d_Turtles_floorRoot_19 ?_
    refine lv_topl (fun x_2 ex_2 => ?_)
    refine lv_lstore (lv' := [(4, .long x_2), (2, .long q), (0, .long q)]) hx hb d_Turtles_floorRoot_20 hl (by decide) rfl (fun ls hl => ?_)
    refine lv_lload_n hx hb d_Turtles_floorRoot_22 rfl (lv_at hl 1 rfl) ?_
    refine lv_ldc2 (v := 1732050807) hx hb hown (htt _ lk_Turtles_40) d_Turtles_floorRoot_23 ?_
    refine lv_lmul hx hb d_Turtles_floorRoot_26 ?_
    refine lv_ldc2 (v := 1000000000) hx hb hown (htt _ lk_Turtles_42) d_Turtles_floorRoot_27 ?_
    refine lv_ldiv hx hb d_Turtles_floorRoot_30 (by decide) ?_
    refine lv_topl (fun x_3 ex_3 => ?_)
    refine lv_lstore (lv' := [(6, .long x_3), (4, .long x_2), (2, .long q), (0, .long q)]) hx hb d_Turtles_floorRoot_31 hl (by decide) rfl (fun ls hl => ?_)
    refine lv_lload hx hb d_Turtles_floorRoot_33 (lv_at hl 0 rfl) ?_
    refine lv_lconst (v := 1) hx hb d_Turtles_floorRoot_35 (by decide) ?_
    refine lv_ladd hx hb d_Turtles_floorRoot_36 ?_
    refine lv_lload hx hb d_Turtles_floorRoot_37 (lv_at hl 0 rfl) ?_
    refine lv_lconst (v := 1) hx hb d_Turtles_floorRoot_39 (by decide) ?_
    refine lv_ladd hx hb d_Turtles_floorRoot_40 ?_
    refine lv_lmul hx hb d_Turtles_floorRoot_41 ?_
    refine lv_lload hx hb d_Turtles_floorRoot_42 (lv_at hl 1 rfl) ?_
    refine W.lcmp hx hb d_Turtles_floorRoot_44 ?_
    refine lv_if_gt (tgt := 54) hx hb d_Turtles_floorRoot_45 (by decide) (fun c_4 => ?_) (fun c_4 => ?_)
    · refine lv_lload_n hx hb d_Turtles_floorRoot_54 rfl (lv_at hl 3 rfl) ?_
      refine lv_lconst (v := 0) hx hb d_Turtles_floorRoot_55 (by decide) ?_
      refine W.lcmp hx hb d_Turtles_floorRoot_56 ?_
      refine lv_if_ge (tgt := 68) hx hb d_Turtles_floorRoot_57 (by decide) (fun c_5 => ?_) (fun c_5 => ?_)
      · refine lv_lload hx hb d_Turtles_floorRoot_68 (lv_at hl 0 rfl) ?_
        subst ex_2 ex_3
        have hP9 := hP.sub (ws' := []) [] rfl
        have hD9 := hD.sub (ws' := []) [] (by decide) rfl
        exact W.lret (v := ((q * 1732050807) / 1000000000)) hx hb hr (fun t9 ht hW => ⟨⟨((q * 1732050807) / 1000000000), (), rfl, by unfold m_Turtles_floorRoot_r; simp only [if_pos c_1, if_pos c_4], by rw [ht]; exact hP9, va_K.moved hW.alike hK, hD9⟩, hS.F ht⟩) hS.2.2 d_Turtles_floorRoot_70
      · exact absurd (c_1) c_5
    · refine lv_lload hx hb d_Turtles_floorRoot_48 (lv_at hl 0 rfl) ?_
      refine lv_lconst (v := 1) hx hb d_Turtles_floorRoot_50 (by decide) ?_
      refine lv_ladd hx hb d_Turtles_floorRoot_51 ?_
      refine lv_topl (fun x_6 ex_6 => ?_)
      refine lv_lstore (lv' := [(6, .long x_6), (4, .long x_2), (2, .long q), (0, .long q)]) hx hb d_Turtles_floorRoot_52 hl (by decide) rfl (fun ls hl => ?_)
      refine lv_lload_n hx hb d_Turtles_floorRoot_54 rfl (lv_at hl 3 rfl) ?_
      refine lv_lconst (v := 0) hx hb d_Turtles_floorRoot_55 (by decide) ?_
      refine W.lcmp hx hb d_Turtles_floorRoot_56 ?_
      refine lv_if_ge (tgt := 68) hx hb d_Turtles_floorRoot_57 (by decide) (fun c_7 => ?_) (fun c_7 => ?_)
      · refine lv_lload hx hb d_Turtles_floorRoot_68 (lv_at hl 0 rfl) ?_
        subst ex_2 ex_3 ex_6
        have hP9 := hP.sub (ws' := []) [] rfl
        have hD9 := hD.sub (ws' := []) [] (by decide) rfl
        exact W.lret (v := (((q * 1732050807) / 1000000000) + 1)) hx hb hr (fun t9 ht hW => ⟨⟨(((q * 1732050807) / 1000000000) + 1), (), rfl, by unfold m_Turtles_floorRoot_r; simp only [if_pos c_1, if_neg c_4], by rw [ht]; exact hP9, va_K.moved hW.alike hK, hD9⟩, hS.F ht⟩) hS.2.2 d_Turtles_floorRoot_70
      · exact absurd (c_1) c_7
  · refine lv_lload_n hx hb d_Turtles_floorRoot_6 rfl (lv_at hl 0 rfl) ?_
    refine lv_lneg hx hb d_Turtles_floorRoot_7 ?_
    refine lv_goto (tgt := 12) hx hb d_Turtles_floorRoot_8 (by decide) ?_
    refine lv_topl (fun x_8 ex_8 => ?_)
    refine lv_lstore_n (lv' := [(2, .long x_8), (0, .long q)]) hx hb d_Turtles_floorRoot_12 rfl hl (by decide) rfl (fun ls hl => ?_)
    refine lv_ldc2 (v := 3) hx hb hown (htt _ lk_Turtles_38) d_Turtles_floorRoot_13 ?_
    refine lv_lload_n hx hb d_Turtles_floorRoot_16 rfl (lv_at hl 0 rfl) ?_
    refine lv_lmul hx hb d_Turtles_floorRoot_17 ?_
    refine lv_lload_n hx hb d_Turtles_floorRoot_18 rfl (lv_at hl 0 rfl) ?_
    refine lv_lmul hx hb d_Turtles_floorRoot_19 ?_
    refine lv_topl (fun x_9 ex_9 => ?_)
    refine lv_lstore (lv' := [(4, .long x_9), (2, .long x_8), (0, .long q)]) hx hb d_Turtles_floorRoot_20 hl (by decide) rfl (fun ls hl => ?_)
    refine lv_lload_n hx hb d_Turtles_floorRoot_22 rfl (lv_at hl 1 rfl) ?_
    refine lv_ldc2 (v := 1732050807) hx hb hown (htt _ lk_Turtles_40) d_Turtles_floorRoot_23 ?_
    refine lv_lmul hx hb d_Turtles_floorRoot_26 ?_
    refine lv_ldc2 (v := 1000000000) hx hb hown (htt _ lk_Turtles_42) d_Turtles_floorRoot_27 ?_
    refine lv_ldiv hx hb d_Turtles_floorRoot_30 (by decide) ?_
    refine lv_topl (fun x_10 ex_10 => ?_)
    refine lv_lstore (lv' := [(6, .long x_10), (4, .long x_9), (2, .long x_8), (0, .long q)]) hx hb d_Turtles_floorRoot_31 hl (by decide) rfl (fun ls hl => ?_)
    refine lv_lload hx hb d_Turtles_floorRoot_33 (lv_at hl 0 rfl) ?_
    refine lv_lconst (v := 1) hx hb d_Turtles_floorRoot_35 (by decide) ?_
    refine lv_ladd hx hb d_Turtles_floorRoot_36 ?_
    refine lv_lload hx hb d_Turtles_floorRoot_37 (lv_at hl 0 rfl) ?_
    refine lv_lconst (v := 1) hx hb d_Turtles_floorRoot_39 (by decide) ?_
    refine lv_ladd hx hb d_Turtles_floorRoot_40 ?_
    refine lv_lmul hx hb d_Turtles_floorRoot_41 ?_
    refine lv_lload hx hb d_Turtles_floorRoot_42 (lv_at hl 1 rfl) ?_
    refine W.lcmp hx hb d_Turtles_floorRoot_44 ?_
    refine lv_if_gt (tgt := 54) hx hb d_Turtles_floorRoot_45 (by decide) (fun c_11 => ?_) (fun c_11 => ?_)
    · refine lv_lload_n hx hb d_Turtles_floorRoot_54 rfl (lv_at hl 3 rfl) ?_
      refine lv_lconst (v := 0) hx hb d_Turtles_floorRoot_55 (by decide) ?_
      refine W.lcmp hx hb d_Turtles_floorRoot_56 ?_
      refine lv_if_ge (tgt := 68) hx hb d_Turtles_floorRoot_57 (by decide) (fun c_12 => ?_) (fun c_12 => ?_)
      · exact absurd c_12 (c_1)
      · refine lv_lload hx hb d_Turtles_floorRoot_60 (lv_at hl 0 rfl) ?_
        refine lv_lneg hx hb d_Turtles_floorRoot_62 ?_
        refine lv_lconst (v := 1) hx hb d_Turtles_floorRoot_63 (by decide) ?_
        refine lv_lsub hx hb d_Turtles_floorRoot_64 ?_
        refine lv_goto (tgt := 70) hx hb d_Turtles_floorRoot_65 (by decide) ?_
        subst ex_8 ex_9 ex_10
        have hP9 := hP.sub (ws' := []) [] rfl
        have hD9 := hD.sub (ws' := []) [] (by decide) rfl
        exact W.lret (v := (-(((-q) * 1732050807) / 1000000000)) - 1) hx hb hr (fun t9 ht hW => ⟨⟨(-(((-q) * 1732050807) / 1000000000)) - 1, (), rfl, by unfold m_Turtles_floorRoot_r; simp only [if_neg c_1, if_pos c_11], by rw [ht]; exact hP9, va_K.moved hW.alike hK, hD9⟩, hS.F ht⟩) hS.2.2 d_Turtles_floorRoot_70
    · refine lv_lload hx hb d_Turtles_floorRoot_48 (lv_at hl 0 rfl) ?_
      refine lv_lconst (v := 1) hx hb d_Turtles_floorRoot_50 (by decide) ?_
      refine lv_ladd hx hb d_Turtles_floorRoot_51 ?_
      refine lv_topl (fun x_13 ex_13 => ?_)
      refine lv_lstore (lv' := [(6, .long x_13), (4, .long x_9), (2, .long x_8), (0, .long q)]) hx hb d_Turtles_floorRoot_52 hl (by decide) rfl (fun ls hl => ?_)
      refine lv_lload_n hx hb d_Turtles_floorRoot_54 rfl (lv_at hl 3 rfl) ?_
      refine lv_lconst (v := 0) hx hb d_Turtles_floorRoot_55 (by decide) ?_
      refine W.lcmp hx hb d_Turtles_floorRoot_56 ?_
      refine lv_if_ge (tgt := 68) hx hb d_Turtles_floorRoot_57 (by decide) (fun c_14 => ?_) (fun c_14 => ?_)
      · exact absurd c_14 (c_1)
      · refine lv_lload hx hb d_Turtles_floorRoot_60 (lv_at hl 0 rfl) ?_
        refine lv_lneg hx hb d_Turtles_floorRoot_62 ?_
        refine lv_lconst (v := 1) hx hb d_Turtles_floorRoot_63 (by decide) ?_
        refine lv_lsub hx hb d_Turtles_floorRoot_64 ?_
        refine lv_goto (tgt := 70) hx hb d_Turtles_floorRoot_65 (by decide) ?_
        subst ex_8 ex_9 ex_10 ex_13
        have hP9 := hP.sub (ws' := []) [] rfl
        have hD9 := hD.sub (ws' := []) [] (by decide) rfl
        exact W.lret (v := (-((((-q) * 1732050807) / 1000000000) + 1)) - 1) hx hb hr (fun t9 ht hW => ⟨⟨(-((((-q) * 1732050807) / 1000000000) + 1)) - 1, (), rfl, by unfold m_Turtles_floorRoot_r; simp only [if_neg c_1, if_neg c_11], by rw [ht]; exact hP9, va_K.moved hW.alike hK, hD9⟩, hS.F ht⟩) hS.2.2 d_Turtles_floorRoot_70

def m_Turtles_sideOf_r (p0 : Int32) (q : Int32) (v : Int32) : Int32 := if q = ((0 : Int32)) then m_Long_compare_r 0 ((2 * v.toInt64) - p0.toInt64) else if ((0 : Int32)) ≤ ((lg_cmp (m_Turtles_floorRoot_r q.toInt64) ((2 * v.toInt64) - p0.toInt64))) then 1 else (-1)
set_option maxHeartbeats 4000000 in
set_option maxRecDepth 100000 in
theorem c_Turtles_sideOf (l : Launch) (dC : Nat → ClassId) (dI : Nat → Nat → Nat) (sz : Nat) (p0 : Int32) (q : Int32) (v : Int32)  : Met l y_Turtles_sideOf w_Turtles_sideOf ({ frames := 1, cells := 0, slots := 0, locals := 27 }) (va_Pc [.int p0, .int q, .int v] (fun U => U.heap.size = sz ∧ va_P (dC, dI) classes ([] : va_W) U.heap ∧ va_K (dC, dI) classes [] U ∧ va_D (fun _ => True) ([] : va_W))) (va_Qi (fun (r : Int32) (_ : Unit) => r = m_Turtles_sideOf_r p0 q v) (fun (_ : Unit) t => va_P (dC, dI) classes ([] : va_W) t.heap ∧ va_K (dC, dI) classes [] t ∧ va_D (va_A ([] : va_W) sz) ([] : va_W)) (va_A ([] : va_W) sz)) 0 0 (va_A ([] : va_W) sz) := by
  refine Met.ofW (cc := b_Turtles_sideOf) (maxL := 5) (ret := (some .int)) (by decide) rfl ?_
  intro p e s m args below meth c s₁ B hml hv
  obtain ⟨rfl, hsz, hP, hK, hD0⟩ := hv
  have hx := B.exec
  have hb := B.bytes
  have hr := B.returns
  have hts := atoms_spec (ws := w_Turtles_sideOf) B.pre
  have htt : ∀ w ∈ tw_T, w.before _ s = true := fun w h => hts w (List.mem_cons_of_mem _ h)
  have hown : s.vm.findClass R_Turtles = some m.cls := findClass_of_methodNamed B.named
  have hlocks := B.notSynchronized
  subst hsz
  have hD := hD0.self (sz := s.heap.size)
  generalize hAe : va_A ([] : va_W) s.heap.size = A at hD ⊢
  have hA : ∀ q : Nat, s.heap.size ≤ q → A q := fun q h => by rw [← hAe]; exact Or.inr h
  have hS : va_S A s.heap s.heap [] := va_S.rf
  have hP : va_P (dC, dI) classes ([] : va_W) s.heap := hP
  have hl := lv_entry ([.int p0, .int q, .int v]) (n := 5) (Nat.le_of_ble_eq_true rfl)
  rw [lg_entry_eq]
  generalize (lg_sl ([.int p0, .int q, .int v]) ++ List.replicate (5 - (lg_sl ([.int p0, .int q, .int v])).length) Slot.unset).toArray = ls at hl ⊢
  have hl : lv_has ls 5 [(0, .int p0), (1, .int q), (2, .int v)] := hl
  refine lv_ldc2 (v := 2) hx hb hown (htt _ lk_Turtles_48) d_Turtles_sideOf_0 ?_
  refine lv_iload_n hx hb d_Turtles_sideOf_3 rfl (lv_at hl 2 rfl) ?_
  refine lv_i2l hx hb d_Turtles_sideOf_4 rfl ?_
  refine lv_lmul hx hb d_Turtles_sideOf_5 ?_
  refine lv_iload_n hx hb d_Turtles_sideOf_6 rfl (lv_at hl 0 rfl) ?_
  refine lv_i2l hx hb d_Turtles_sideOf_7 rfl ?_
  refine lv_lsub hx hb d_Turtles_sideOf_8 ?_
  refine lv_topl (fun x_1 ex_1 => ?_)
  refine lv_lstore_n (lv' := [(3, .long x_1), (0, .int p0), (1, .int q), (2, .int v)]) hx hb d_Turtles_sideOf_9 rfl hl (by decide) rfl (fun ls hl => ?_)
  refine lv_iload_n hx hb d_Turtles_sideOf_10 rfl (lv_at hl 2 rfl) ?_
  refine lv_if_ne (tgt := 20) hx hb d_Turtles_sideOf_11 (by decide) (fun c_2 => ?_) (fun c_2 => ?_)
  · refine lv_iload_n hx hb d_Turtles_sideOf_20 rfl (lv_at hl 2 rfl) ?_
    refine lv_i2l hx hb d_Turtles_sideOf_21 rfl ?_
    have hPc := hP.sub (ws' := []) [] rfl
    have hDc := hD.sub (ws' := []) [] (by decide) rfl
    have hKc := hK.sub (tys' := []) [] rfl
    have hFc := va_free (wc := []) hD hS hA [] rfl
    refine va_calll (va_runS (As := [.long q.toInt64]) (rest := []) ⟨hx, hb, hml, hown, hts⟩ (c_Turtles_floorRoot l dC dI s.heap.size q.toInt64) (va_cwS 1 hts (tw_GS tw_cons cw_Turtles_floorRoot lk_Turtles_44 st_Turtles_floorRoot ini_Turtles) rfl rfl rfl (by decide +kernel) ⟨Nat.le_of_ble_eq_true rfl, Nat.le_of_ble_eq_true rfl⟩) ⟨fun a U g mk q => by obtain ⟨q0, q1, qP, qK, qD⟩ := q; exact ⟨q0, q1, qP, va_K.moved (u := U) (U := U.calling g mk a) (Vm.Alike.refl U.vm) qK, qD⟩, fun U hU hW => ⟨rfl, by rw [hU], by rw [hU]; exact hPc, va_K.moved hW.alike hKc, hDc.weaken (fun _ _ _ _ => trivial)⟩⟩ rfl rfl hl.1 rfl (lv_room (Nat.le_of_ble_eq_true rfl)) d_Turtles_sideOf_22 ⟨Nat.le_of_ble_eq_true rfl, Nat.le_of_ble_eq_true rfl⟩) hS (fun q _ h => hFc q h) hFc (fun r9 u9 t9 H1 locs ht hvm e9 hB hz1 hk1 hS => ?_)
    obtain ⟨hP1, hK1, hD1⟩ := hB
    rw [ht] at hP1
    obtain ⟨hP, hD⟩ := va_join (wr := []) (w1 := []) hP hD [] [] rfl rfl (by decide) (by decide) hk1 hFc hP1 hD1
    subst e9
    clear hP1 hD1 hK1 hvm hz1 hk1 hFc hKc hDc hPc
    subst ht
    generalize t9.heap = H at hP hS ⊢
    have hP : va_P (dC, dI) classes [] H := hP
    have hD : va_D A [] := hD
    refine lv_lload_n hx hb d_Turtles_sideOf_25 rfl (lv_at hl 0 rfl) ?_
    refine W.lcmp hx hb d_Turtles_sideOf_26 ?_
    refine lv_if_ge (tgt := 34) hx hb d_Turtles_sideOf_27 (by decide) (fun c_3 => ?_) (fun c_3 => ?_)
    · refine lv_iconst (v := 1) hx hb d_Turtles_sideOf_34 (by decide) ?_
      subst ex_1
      have hP9 := hP.sub (ws' := []) [] rfl
      have hD9 := hD.sub (ws' := []) [] (by decide) rfl
      exact W.iret (v := 1) hx hb hr (fun t9 ht hW => ⟨⟨1, (), rfl, by unfold m_Turtles_sideOf_r; simp only [if_neg c_2, if_pos c_3], by rw [ht]; exact hP9, va_K.moved hW.alike hK, hD9⟩, hS.F ht⟩) hS.2.2 d_Turtles_sideOf_35
    · refine lv_iconst (v := -1) hx hb d_Turtles_sideOf_30 (by decide) ?_
      refine lv_goto (tgt := 35) hx hb d_Turtles_sideOf_31 (by decide) ?_
      subst ex_1
      have hP9 := hP.sub (ws' := []) [] rfl
      have hD9 := hD.sub (ws' := []) [] (by decide) rfl
      exact W.iret (v := (-1)) hx hb hr (fun t9 ht hW => ⟨⟨(-1), (), rfl, by unfold m_Turtles_sideOf_r; simp only [if_neg c_2, if_neg c_3], by rw [ht]; exact hP9, va_K.moved hW.alike hK, hD9⟩, hS.F ht⟩) hS.2.2 d_Turtles_sideOf_35
  · refine lv_lconst (v := 0) hx hb d_Turtles_sideOf_14 (by decide) ?_
    refine lv_lload_n hx hb d_Turtles_sideOf_15 rfl (lv_at hl 0 rfl) ?_
    have hPc := hP.sub (ws' := []) [] rfl
    have hDc := hD.sub (ws' := []) [] (by decide) rfl
    have hKc := hK.sub (tys' := []) [] rfl
    have hFc := va_free (wc := []) hD hS hA [] rfl
    refine va_calli (va_runS (As := [.long 0, .long x_1]) (rest := []) ⟨hx, hb, hml, hown, hts⟩ (c_Long_compare l dC dI s.heap.size 0 x_1) (va_cwS 2 hts (tw_GS tw_cons cw_Long_compare lk_Turtles_56 st_Long_compare ini_Long) rfl rfl rfl (by decide +kernel) ⟨Nat.le_of_ble_eq_true rfl, Nat.le_of_ble_eq_true rfl⟩) ⟨fun a U g mk q => by obtain ⟨q0, q1, qP, qK, qD⟩ := q; exact ⟨q0, q1, qP, va_K.moved (u := U) (U := U.calling g mk a) (Vm.Alike.refl U.vm) qK, qD⟩, fun U hU hW => ⟨rfl, by rw [hU], by rw [hU]; exact hPc, va_K.moved hW.alike hKc, hDc.weaken (fun _ _ _ _ => trivial)⟩⟩ rfl rfl hl.1 rfl (lv_room (Nat.le_of_ble_eq_true rfl)) d_Turtles_sideOf_16 ⟨Nat.le_of_ble_eq_true rfl, Nat.le_of_ble_eq_true rfl⟩) hS (fun q _ h => hFc q h) hFc (fun r9 u9 t9 H1 locs ht hvm e9 hB hz1 hk1 hS => ?_)
    obtain ⟨hP1, hK1, hD1⟩ := hB
    rw [ht] at hP1
    obtain ⟨hP, hD⟩ := va_join (wr := []) (w1 := []) hP hD [] [] rfl rfl (by decide) (by decide) hk1 hFc hP1 hD1
    subst e9
    clear hP1 hD1 hK1 hvm hz1 hk1 hFc hKc hDc hPc
    subst ht
    generalize t9.heap = H at hP hS ⊢
    have hP : va_P (dC, dI) classes [] H := hP
    have hD : va_D A [] := hD
    subst ex_1
    have hP9 := hP.sub (ws' := []) [] rfl
    have hD9 := hD.sub (ws' := []) [] (by decide) rfl
    exact W.iret (v := m_Long_compare_r 0 ((2 * v.toInt64) - p0.toInt64)) hx hb hr (fun t9 ht hW => ⟨⟨m_Long_compare_r 0 ((2 * v.toInt64) - p0.toInt64), (), rfl, by unfold m_Turtles_sideOf_r; simp only [if_pos c_2], by rw [ht]; exact hP9, va_K.moved hW.alike hK, hD9⟩, hS.F ht⟩) hS.2.2 d_Turtles_sideOf_19

def m_World_turtle_r (parts : Nat → Int32) (k : Int32) (what : Int32) : Int32 := if ((ts_exists k)) = ((0 : Int32)) then (-1) else if what < ((0 : Int32)) then (-1) else if what ≤ ((2 : Int32)) then if what = ((0 : Int32)) then 30 * (ts_part parts k (4 + what)) else (ts_part parts k (4 + what)) else (-1)
