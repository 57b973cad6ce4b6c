theorem d_Turtles_onScreen_0 : decode b_Turtles_onScreen 0 = .ok (.lload_n 0, 1) := by decide +kernel
theorem d_Turtles_onScreen_1 : decode b_Turtles_onScreen 1 = .ok (.ldc2_w 87, 3) := by decide +kernel
theorem d_Turtles_onScreen_4 : decode b_Turtles_onScreen 4 = .ok (.lcmp, 1) := by decide +kernel
theorem d_Turtles_onScreen_5 : decode b_Turtles_onScreen 5 = .ok (.ifCond .lt 31, 3) := by decide +kernel
theorem d_Turtles_onScreen_8 : decode b_Turtles_onScreen 8 = .ok (.lload_n 0, 1) := by decide +kernel
theorem d_Turtles_onScreen_9 : decode b_Turtles_onScreen 9 = .ok (.ldc2_w 108, 3) := by decide +kernel
theorem d_Turtles_onScreen_12 : decode b_Turtles_onScreen 12 = .ok (.lcmp, 1) := by decide +kernel
theorem d_Turtles_onScreen_13 : decode b_Turtles_onScreen 13 = .ok (.ifCond .ge 23, 3) := by decide +kernel
theorem d_Turtles_onScreen_16 : decode b_Turtles_onScreen 16 = .ok (.lload_n 2, 1) := by decide +kernel
theorem d_Turtles_onScreen_17 : decode b_Turtles_onScreen 17 = .ok (.ldc2_w 87, 3) := by decide +kernel
theorem d_Turtles_onScreen_20 : decode b_Turtles_onScreen 20 = .ok (.lcmp, 1) := by decide +kernel
theorem d_Turtles_onScreen_21 : decode b_Turtles_onScreen 21 = .ok (.ifCond .lt 15, 3) := by decide +kernel
theorem d_Turtles_onScreen_24 : decode b_Turtles_onScreen 24 = .ok (.lload_n 2, 1) := by decide +kernel
theorem d_Turtles_onScreen_25 : decode b_Turtles_onScreen 25 = .ok (.ldc2_w 108, 3) := by decide +kernel
theorem d_Turtles_onScreen_28 : decode b_Turtles_onScreen 28 = .ok (.lcmp, 1) := by decide +kernel
theorem d_Turtles_onScreen_29 : decode b_Turtles_onScreen 29 = .ok (.ifCond .ge 7, 3) := by decide +kernel
theorem d_Turtles_onScreen_32 : decode b_Turtles_onScreen 32 = .ok (.iconst 1, 1) := by decide +kernel
theorem d_Turtles_onScreen_33 : decode b_Turtles_onScreen 33 = .ok (.goto 4, 3) := by decide +kernel
theorem d_Turtles_onScreen_36 : decode b_Turtles_onScreen 36 = .ok (.iconst 0, 1) := by decide +kernel
theorem d_Turtles_onScreen_37 : decode b_Turtles_onScreen 37 = .ok (.ireturn, 1) := by decide +kernel
theorem lk_Turtles_87 : Cond.constantLong "TurtleWorld$Turtles" 87 (-32) ∈ tw_T := tw_i6 45 (by decide +kernel) (by decide +kernel)
theorem lk_Turtles_108 : Cond.constantLong "TurtleWorld$Turtles" 108 32 ∈ tw_T := tw_i6 64 (by decide +kernel) (by decide +kernel)
theorem d_Turtles_colourAt_0 : decode b_Turtles_colourAt 0 = .ok (.iload_n 1, 1) := by decide +kernel
theorem d_Turtles_colourAt_1 : decode b_Turtles_colourAt 1 = .ok (.i2l, 1) := by decide +kernel
theorem d_Turtles_colourAt_2 : decode b_Turtles_colourAt 2 = .ok (.iload_n 2, 1) := by decide +kernel
theorem d_Turtles_colourAt_3 : decode b_Turtles_colourAt 3 = .ok (.i2l, 1) := by decide +kernel
theorem d_Turtles_colourAt_4 : decode b_Turtles_colourAt 4 = .ok (.invokestatic 115, 3) := by decide +kernel
theorem d_Turtles_colourAt_7 : decode b_Turtles_colourAt 7 = .ok (.ifCond .eq 16, 3) := by decide +kernel
theorem d_Turtles_colourAt_10 : decode b_Turtles_colourAt 10 = .ok (.aload_n 0, 1) := by decide +kernel
theorem d_Turtles_colourAt_11 : decode b_Turtles_colourAt 11 = .ok (.getfield 15, 3) := by decide +kernel
theorem d_Turtles_colourAt_14 : decode b_Turtles_colourAt 14 = .ok (.iload_n 1, 1) := by decide +kernel
theorem d_Turtles_colourAt_15 : decode b_Turtles_colourAt 15 = .ok (.iload_n 2, 1) := by decide +kernel
theorem d_Turtles_colourAt_16 : decode b_Turtles_colourAt 16 = .ok (.invokestatic 110, 3) := by decide +kernel
theorem d_Turtles_colourAt_19 : decode b_Turtles_colourAt 19 = .ok (.iaload, 1) := by decide +kernel
theorem d_Turtles_colourAt_20 : decode b_Turtles_colourAt 20 = .ok (.goto 4, 3) := by decide +kernel
theorem d_Turtles_colourAt_23 : decode b_Turtles_colourAt 23 = .ok (.iconst (-1), 1) := by decide +kernel
theorem d_Turtles_colourAt_24 : decode b_Turtles_colourAt 24 = .ok (.ireturn, 1) := by decide +kernel
theorem lk_Turtles_115 : Cond.methodLink "TurtleWorld$Turtles" 115 ⟨"TurtleWorld$Turtles", "onScreen", "(JJ)Z"⟩ ∈ tw_T := tw_i6 128 (by decide +kernel) (by decide +kernel)
theorem st_Turtles_onScreen : Cond.static ⟨"TurtleWorld$Turtles", "onScreen", "(JJ)Z"⟩ ∈ tw_T := tw_i6 129 (by decide +kernel) (by decide +kernel)
theorem lk_Turtles_15 : Cond.fieldLink "TurtleWorld$Turtles" 15 "TurtleWorld$Turtles" "dots" "[I" ∈ tw_T := tw_i2 87 (by decide +kernel) (by decide +kernel)
theorem lk_Turtles_110 : Cond.methodLink "TurtleWorld$Turtles" 110 ⟨"TurtleWorld$Turtles", "dotAt", "(II)I"⟩ ∈ tw_T := tw_i6 65 (by decide +kernel) (by decide +kernel)
theorem st_Turtles_dotAt : Cond.static ⟨"TurtleWorld$Turtles", "dotAt", "(II)I"⟩ ∈ tw_T := tw_i6 66 (by decide +kernel) (by decide +kernel)
theorem d_World_dot_0 : decode b_World_dot 0 = .ok (.aload_n 0, 1) := by decide +kernel
theorem d_World_dot_1 : decode b_World_dot 1 = .ok (.getfield 40, 3) := by decide +kernel
theorem d_World_dot_4 : decode b_World_dot 4 = .ok (.iload_n 1, 1) := by decide +kernel
theorem d_World_dot_5 : decode b_World_dot 5 = .ok (.iload_n 2, 1) := by decide +kernel
theorem d_World_dot_6 : decode b_World_dot 6 = .ok (.invokevirtual 200, 3) := by decide +kernel
theorem d_World_dot_9 : decode b_World_dot 9 = .ok (.ireturn, 1) := by decide +kernel
theorem lk_World_40 : Cond.fieldLink "TurtleWorld" 40 "TurtleWorld" "turtles" "LTurtleWorld$Turtles;" ∈ tw_T := tw_i3 197 (by decide +kernel) (by decide +kernel)
theorem lk_World_200 : Cond.methodLink "TurtleWorld" 200 ⟨"TurtleWorld$Turtles", "colourAt", "(II)I"⟩ ∈ tw_T := tw_i7 161 (by decide +kernel) (by decide +kernel)
theorem in_Turtles_colourAt : Cond.instanceMethod ⟨"TurtleWorld$Turtles", "colourAt", "(II)I"⟩ ∈ tw_T := tw_i7 162 (by decide +kernel) (by decide +kernel)
theorem sel_Turtles_colourAt : Cond.selects "TurtleWorld$Turtles" ⟨"TurtleWorld$Turtles", "colourAt", "(II)I"⟩ ⟨"TurtleWorld$Turtles", "colourAt", "(II)I"⟩ ∈ tw_T := tw_i7 163 (by decide +kernel) (by decide +kernel)
theorem d_Turtles_sumUp_0 : decode b_Turtles_sumUp 0 = .ok (.iconst 0, 1) := by decide +kernel
theorem d_Turtles_sumUp_1 : decode b_Turtles_sumUp 1 = .ok (.istore_n 1, 1) := by decide +kernel
theorem d_Turtles_sumUp_2 : decode b_Turtles_sumUp 2 = .ok (.iconst 0, 1) := by decide +kernel
theorem d_Turtles_sumUp_3 : decode b_Turtles_sumUp 3 = .ok (.istore_n 2, 1) := by decide +kernel
theorem d_Turtles_sumUp_4 : decode b_Turtles_sumUp 4 = .ok (.iload_n 2, 1) := by decide +kernel
theorem d_Turtles_sumUp_5 : decode b_Turtles_sumUp 5 = .ok (.aload_n 0, 1) := by decide +kernel
theorem d_Turtles_sumUp_6 : decode b_Turtles_sumUp 6 = .ok (.getfield 15, 3) := by decide +kernel
theorem d_Turtles_sumUp_9 : decode b_Turtles_sumUp 9 = .ok (.arraylength, 1) := by decide +kernel
theorem d_Turtles_sumUp_10 : decode b_Turtles_sumUp 10 = .ok (.if_icmp .ge 21, 3) := by decide +kernel
theorem d_Turtles_sumUp_13 : decode b_Turtles_sumUp 13 = .ok (.bipush 31, 2) := by decide +kernel
theorem d_Turtles_sumUp_15 : decode b_Turtles_sumUp 15 = .ok (.iload_n 1, 1) := by decide +kernel
theorem d_Turtles_sumUp_16 : decode b_Turtles_sumUp 16 = .ok (.imul, 1) := by decide +kernel
theorem d_Turtles_sumUp_17 : decode b_Turtles_sumUp 17 = .ok (.aload_n 0, 1) := by decide +kernel
theorem d_Turtles_sumUp_18 : decode b_Turtles_sumUp 18 = .ok (.getfield 15, 3) := by decide +kernel
theorem d_Turtles_sumUp_21 : decode b_Turtles_sumUp 21 = .ok (.iload_n 2, 1) := by decide +kernel
theorem d_Turtles_sumUp_22 : decode b_Turtles_sumUp 22 = .ok (.iaload, 1) := by decide +kernel
theorem d_Turtles_sumUp_23 : decode b_Turtles_sumUp 23 = .ok (.iadd, 1) := by decide +kernel
theorem d_Turtles_sumUp_24 : decode b_Turtles_sumUp 24 = .ok (.istore_n 1, 1) := by decide +kernel
theorem d_Turtles_sumUp_25 : decode b_Turtles_sumUp 25 = .ok (.iinc 2 1, 3) := by decide +kernel
theorem d_Turtles_sumUp_28 : decode b_Turtles_sumUp 28 = .ok (.goto (-24), 3) := by decide +kernel
theorem d_Turtles_sumUp_31 : decode b_Turtles_sumUp 31 = .ok (.iconst 0, 1) := by decide +kernel
theorem d_Turtles_sumUp_32 : decode b_Turtles_sumUp 32 = .ok (.istore_n 2, 1) := by decide +kernel
theorem d_Turtles_sumUp_33 : decode b_Turtles_sumUp 33 = .ok (.iload_n 2, 1) := by decide +kernel
theorem d_Turtles_sumUp_34 : decode b_Turtles_sumUp 34 = .ok (.aload_n 0, 1) := by decide +kernel
theorem d_Turtles_sumUp_35 : decode b_Turtles_sumUp 35 = .ok (.getfield 11, 3) := by decide +kernel
theorem d_Turtles_sumUp_38 : decode b_Turtles_sumUp 38 = .ok (.arraylength, 1) := by decide +kernel
theorem d_Turtles_sumUp_39 : decode b_Turtles_sumUp 39 = .ok (.if_icmp .ge 21, 3) := by decide +kernel
theorem d_Turtles_sumUp_42 : decode b_Turtles_sumUp 42 = .ok (.bipush 31, 2) := by decide +kernel
theorem d_Turtles_sumUp_44 : decode b_Turtles_sumUp 44 = .ok (.iload_n 1, 1) := by decide +kernel
theorem d_Turtles_sumUp_45 : decode b_Turtles_sumUp 45 = .ok (.imul, 1) := by decide +kernel
theorem d_Turtles_sumUp_46 : decode b_Turtles_sumUp 46 = .ok (.aload_n 0, 1) := by decide +kernel
theorem d_Turtles_sumUp_47 : decode b_Turtles_sumUp 47 = .ok (.getfield 11, 3) := by decide +kernel
theorem d_Turtles_sumUp_50 : decode b_Turtles_sumUp 50 = .ok (.iload_n 2, 1) := by decide +kernel
theorem d_Turtles_sumUp_51 : decode b_Turtles_sumUp 51 = .ok (.iaload, 1) := by decide +kernel
theorem d_Turtles_sumUp_52 : decode b_Turtles_sumUp 52 = .ok (.iadd, 1) := by decide +kernel
theorem d_Turtles_sumUp_53 : decode b_Turtles_sumUp 53 = .ok (.istore_n 1, 1) := by decide +kernel
theorem d_Turtles_sumUp_54 : decode b_Turtles_sumUp 54 = .ok (.iinc 2 1, 3) := by decide +kernel
theorem d_Turtles_sumUp_57 : decode b_Turtles_sumUp 57 = .ok (.goto (-24), 3) := by decide +kernel
theorem d_Turtles_sumUp_60 : decode b_Turtles_sumUp 60 = .ok (.iload_n 1, 1) := by decide +kernel
theorem d_Turtles_sumUp_61 : decode b_Turtles_sumUp 61 = .ok (.ireturn, 1) := by decide +kernel
theorem d_World_sum_0 : decode b_World_sum 0 = .ok (.aload_n 0, 1) := by decide +kernel
theorem d_World_sum_1 : decode b_World_sum 1 = .ok (.getfield 40, 3) := by decide +kernel
theorem d_World_sum_4 : decode b_World_sum 4 = .ok (.invokevirtual 248, 3) := by decide +kernel
theorem d_World_sum_7 : decode b_World_sum 7 = .ok (.ireturn, 1) := by decide +kernel
theorem lk_World_248 : Cond.methodLink "TurtleWorld" 248 ⟨"TurtleWorld$Turtles", "sumUp", "()I"⟩ ∈ tw_T := tw_i7 219 (by decide +kernel) (by decide +kernel)
theorem in_Turtles_sumUp : Cond.instanceMethod ⟨"TurtleWorld$Turtles", "sumUp", "()I"⟩ ∈ tw_T := tw_i7 220 (by decide +kernel) (by decide +kernel)
theorem sel_Turtles_sumUp : Cond.selects "TurtleWorld$Turtles" ⟨"TurtleWorld$Turtles", "sumUp", "()I"⟩ ⟨"TurtleWorld$Turtles", "sumUp", "()I"⟩ ∈ tw_T := tw_i7 221 (by decide +kernel) (by decide +kernel)
