theorem d_Turtles_setPart_0 : decode b_Turtles_setPart 0 = .ok (.aload_n 0, 1) := by decide +kernel
theorem d_Turtles_setPart_1 : decode b_Turtles_setPart 1 = .ok (.getfield 34, 3) := by decide +kernel
theorem d_Turtles_setPart_4 : decode b_Turtles_setPart 4 = .ok (.invokestatic 30, 3) := by decide +kernel
theorem d_Turtles_setPart_7 : decode b_Turtles_setPart 7 = .ok (.ifCond .eq 28, 3) := by decide +kernel
theorem d_Turtles_setPart_10 : decode b_Turtles_setPart 10 = .ok (.iload_n 1, 1) := by decide +kernel
theorem d_Turtles_setPart_11 : decode b_Turtles_setPart 11 = .ok (.ifCond .lt 24, 3) := by decide +kernel
theorem d_Turtles_setPart_14 : decode b_Turtles_setPart 14 = .ok (.iload_n 1, 1) := by decide +kernel
theorem d_Turtles_setPart_15 : decode b_Turtles_setPart 15 = .ok (.bipush 7, 2) := by decide +kernel
theorem d_Turtles_setPart_17 : decode b_Turtles_setPart 17 = .ok (.if_icmp .ge 18, 3) := by decide +kernel
theorem d_Turtles_setPart_20 : decode b_Turtles_setPart 20 = .ok (.aload_n 0, 1) := by decide +kernel
theorem d_Turtles_setPart_21 : decode b_Turtles_setPart 21 = .ok (.getfield 11, 3) := by decide +kernel
theorem d_Turtles_setPart_24 : decode b_Turtles_setPart 24 = .ok (.aload_n 0, 1) := by decide +kernel
theorem d_Turtles_setPart_25 : decode b_Turtles_setPart 25 = .ok (.getfield 34, 3) := by decide +kernel
theorem d_Turtles_setPart_28 : decode b_Turtles_setPart 28 = .ok (.bipush 7, 2) := by decide +kernel
theorem d_Turtles_setPart_30 : decode b_Turtles_setPart 30 = .ok (.imul, 1) := by decide +kernel
theorem d_Turtles_setPart_31 : decode b_Turtles_setPart 31 = .ok (.iload_n 1, 1) := by decide +kernel
theorem d_Turtles_setPart_32 : decode b_Turtles_setPart 32 = .ok (.iadd, 1) := by decide +kernel
theorem d_Turtles_setPart_33 : decode b_Turtles_setPart 33 = .ok (.iload_n 2, 1) := by decide +kernel
theorem d_Turtles_setPart_34 : decode b_Turtles_setPart 34 = .ok (.iastore, 1) := by decide +kernel
theorem d_Turtles_setPart_35 : decode b_Turtles_setPart 35 = .ok (.return_, 1) := by decide +kernel
theorem lk_Turtles_34 : Cond.fieldLink "TurtleWorld$Turtles" 34 "TurtleWorld$Turtles" "told" "I" ∈ tw_T := tw_i2 88 (by decide +kernel) (by decide +kernel)
theorem d_Turtles_colour_0 : decode b_Turtles_colour 0 = .ok (.aload_n 0, 1) := by decide +kernel
theorem d_Turtles_colour_1 : decode b_Turtles_colour 1 = .ok (.aload_n 0, 1) := by decide +kernel
theorem d_Turtles_colour_2 : decode b_Turtles_colour 2 = .ok (.getfield 34, 3) := by decide +kernel
theorem d_Turtles_colour_5 : decode b_Turtles_colour 5 = .ok (.iconst 5, 1) := by decide +kernel
theorem d_Turtles_colour_6 : decode b_Turtles_colour 6 = .ok (.invokevirtual 119, 3) := by decide +kernel
theorem d_Turtles_colour_9 : decode b_Turtles_colour 9 = .ok (.ireturn, 1) := by decide +kernel
theorem lk_Turtles_119 : Cond.methodLink "TurtleWorld$Turtles" 119 ⟨"TurtleWorld$Turtles", "part", "(II)I"⟩ ∈ tw_T := tw_i6 73 (by decide +kernel) (by decide +kernel)
theorem in_Turtles_part : Cond.instanceMethod ⟨"TurtleWorld$Turtles", "part", "(II)I"⟩ ∈ tw_T := tw_i6 74 (by decide +kernel) (by decide +kernel)
theorem sel_Turtles_part : Cond.selects "TurtleWorld$Turtles" ⟨"TurtleWorld$Turtles", "part", "(II)I"⟩ ⟨"TurtleWorld$Turtles", "part", "(II)I"⟩ ∈ tw_T := tw_i6 75 (by decide +kernel) (by decide +kernel)
theorem d_Turtles_lower_0 : decode b_Turtles_lower 0 = .ok (.aload_n 0, 1) := by decide +kernel
theorem d_Turtles_lower_1 : decode b_Turtles_lower 1 = .ok (.bipush 6, 2) := by decide +kernel
theorem d_Turtles_lower_3 : decode b_Turtles_lower 3 = .ok (.iload_n 1, 1) := by decide +kernel
theorem d_Turtles_lower_4 : decode b_Turtles_lower 4 = .ok (.ifCond .eq 7, 3) := by decide +kernel
theorem d_Turtles_lower_7 : decode b_Turtles_lower 7 = .ok (.iconst 1, 1) := by decide +kernel
theorem d_Turtles_lower_8 : decode b_Turtles_lower 8 = .ok (.goto 4, 3) := by decide +kernel
theorem d_Turtles_lower_11 : decode b_Turtles_lower 11 = .ok (.iconst 0, 1) := by decide +kernel
theorem d_Turtles_lower_12 : decode b_Turtles_lower 12 = .ok (.invokevirtual 122, 3) := by decide +kernel
theorem d_Turtles_lower_15 : decode b_Turtles_lower 15 = .ok (.ldc 83, 2) := by decide +kernel
theorem d_Turtles_lower_17 : decode b_Turtles_lower 17 = .ok (.ireturn, 1) := by decide +kernel
theorem lk_Turtles_122 : Cond.methodLink "TurtleWorld$Turtles" 122 ⟨"TurtleWorld$Turtles", "setPart", "(II)V"⟩ ∈ tw_T := tw_i6 81 (by decide +kernel) (by decide +kernel)
theorem in_Turtles_setPart : Cond.instanceMethod ⟨"TurtleWorld$Turtles", "setPart", "(II)V"⟩ ∈ tw_T := tw_i6 83 (by decide +kernel) (by decide +kernel)
theorem sel_Turtles_setPart : Cond.selects "TurtleWorld$Turtles" ⟨"TurtleWorld$Turtles", "setPart", "(II)V"⟩ ⟨"TurtleWorld$Turtles", "setPart", "(II)V"⟩ ∈ tw_T := tw_inS 58 (by decide +kernel) (by decide +kernel)
theorem lk_Turtles_83 : Cond.constant "TurtleWorld$Turtles" 83 (-2147483648) ∈ tw_T := tw_i6 68 (by decide +kernel) (by decide +kernel)
theorem d_Turtles_takePen_0 : decode b_Turtles_takePen 0 = .ok (.iload_n 1, 1) := by decide +kernel
theorem d_Turtles_takePen_1 : decode b_Turtles_takePen 1 = .ok (.ifCond .lt 9, 3) := by decide +kernel
theorem d_Turtles_takePen_4 : decode b_Turtles_takePen 4 = .ok (.iload_n 1, 1) := by decide +kernel
theorem d_Turtles_takePen_5 : decode b_Turtles_takePen 5 = .ok (.bipush 7, 2) := by decide +kernel
theorem d_Turtles_takePen_7 : decode b_Turtles_takePen 7 = .ok (.if_icmp .le 6, 3) := by decide +kernel
theorem d_Turtles_takePen_10 : decode b_Turtles_takePen 10 = .ok (.ldc 62, 2) := by decide +kernel
theorem d_Turtles_takePen_12 : decode b_Turtles_takePen 12 = .ok (.ireturn, 1) := by decide +kernel
theorem d_Turtles_takePen_13 : decode b_Turtles_takePen 13 = .ok (.aload_n 0, 1) := by decide +kernel
theorem d_Turtles_takePen_14 : decode b_Turtles_takePen 14 = .ok (.iconst 5, 1) := by decide +kernel
theorem d_Turtles_takePen_15 : decode b_Turtles_takePen 15 = .ok (.iload_n 1, 1) := by decide +kernel
theorem d_Turtles_takePen_16 : decode b_Turtles_takePen 16 = .ok (.invokevirtual 122, 3) := by decide +kernel
theorem d_Turtles_takePen_19 : decode b_Turtles_takePen 19 = .ok (.ldc 83, 2) := by decide +kernel
theorem d_Turtles_takePen_21 : decode b_Turtles_takePen 21 = .ok (.ireturn, 1) := by decide +kernel
theorem lk_Turtles_62 : Cond.constant "TurtleWorld$Turtles" 62 (-2147483645) ∈ tw_T := tw_i6 19 (by decide +kernel) (by decide +kernel)
theorem d_Turtles_putAt_0 : decode b_Turtles_putAt 0 = .ok (.iload_n 1, 1) := by decide +kernel
theorem d_Turtles_putAt_1 : decode b_Turtles_putAt 1 = .ok (.sipush (-30000), 3) := by decide +kernel
theorem d_Turtles_putAt_4 : decode b_Turtles_putAt 4 = .ok (.if_icmp .lt 24, 3) := by decide +kernel
theorem d_Turtles_putAt_7 : decode b_Turtles_putAt 7 = .ok (.iload_n 1, 1) := by decide +kernel
theorem d_Turtles_putAt_8 : decode b_Turtles_putAt 8 = .ok (.sipush 30000, 3) := by decide +kernel
theorem d_Turtles_putAt_11 : decode b_Turtles_putAt 11 = .ok (.if_icmp .gt 17, 3) := by decide +kernel
theorem d_Turtles_putAt_14 : decode b_Turtles_putAt 14 = .ok (.iload_n 2, 1) := by decide +kernel
theorem d_Turtles_putAt_15 : decode b_Turtles_putAt 15 = .ok (.sipush (-30000), 3) := by decide +kernel
theorem d_Turtles_putAt_18 : decode b_Turtles_putAt 18 = .ok (.if_icmp .lt 10, 3) := by decide +kernel
theorem d_Turtles_putAt_21 : decode b_Turtles_putAt 21 = .ok (.iload_n 2, 1) := by decide +kernel
theorem d_Turtles_putAt_22 : decode b_Turtles_putAt 22 = .ok (.sipush 30000, 3) := by decide +kernel
theorem d_Turtles_putAt_25 : decode b_Turtles_putAt 25 = .ok (.if_icmp .le 6, 3) := by decide +kernel
theorem d_Turtles_putAt_28 : decode b_Turtles_putAt 28 = .ok (.ldc 62, 2) := by decide +kernel
theorem d_Turtles_putAt_30 : decode b_Turtles_putAt 30 = .ok (.ireturn, 1) := by decide +kernel
theorem d_Turtles_putAt_31 : decode b_Turtles_putAt 31 = .ok (.aload_n 0, 1) := by decide +kernel
theorem d_Turtles_putAt_32 : decode b_Turtles_putAt 32 = .ok (.iconst 0, 1) := by decide +kernel
theorem d_Turtles_putAt_33 : decode b_Turtles_putAt 33 = .ok (.iconst 2, 1) := by decide +kernel
theorem d_Turtles_putAt_34 : decode b_Turtles_putAt 34 = .ok (.iload_n 1, 1) := by decide +kernel
theorem d_Turtles_putAt_35 : decode b_Turtles_putAt 35 = .ok (.imul, 1) := by decide +kernel
theorem d_Turtles_putAt_36 : decode b_Turtles_putAt 36 = .ok (.invokevirtual 122, 3) := by decide +kernel
theorem d_Turtles_putAt_39 : decode b_Turtles_putAt 39 = .ok (.aload_n 0, 1) := by decide +kernel
theorem d_Turtles_putAt_40 : decode b_Turtles_putAt 40 = .ok (.iconst 1, 1) := by decide +kernel
theorem d_Turtles_putAt_41 : decode b_Turtles_putAt 41 = .ok (.iconst 0, 1) := by decide +kernel
theorem d_Turtles_putAt_42 : decode b_Turtles_putAt 42 = .ok (.invokevirtual 122, 3) := by decide +kernel
theorem d_Turtles_putAt_45 : decode b_Turtles_putAt 45 = .ok (.aload_n 0, 1) := by decide +kernel
theorem d_Turtles_putAt_46 : decode b_Turtles_putAt 46 = .ok (.iconst 2, 1) := by decide +kernel
theorem d_Turtles_putAt_47 : decode b_Turtles_putAt 47 = .ok (.iconst 2, 1) := by decide +kernel
theorem d_Turtles_putAt_48 : decode b_Turtles_putAt 48 = .ok (.iload_n 2, 1) := by decide +kernel
theorem d_Turtles_putAt_49 : decode b_Turtles_putAt 49 = .ok (.imul, 1) := by decide +kernel
theorem d_Turtles_putAt_50 : decode b_Turtles_putAt 50 = .ok (.invokevirtual 122, 3) := by decide +kernel
theorem d_Turtles_putAt_53 : decode b_Turtles_putAt 53 = .ok (.aload_n 0, 1) := by decide +kernel
theorem d_Turtles_putAt_54 : decode b_Turtles_putAt 54 = .ok (.iconst 3, 1) := by decide +kernel
theorem d_Turtles_putAt_55 : decode b_Turtles_putAt 55 = .ok (.iconst 0, 1) := by decide +kernel
theorem d_Turtles_putAt_56 : decode b_Turtles_putAt 56 = .ok (.invokevirtual 122, 3) := by decide +kernel
theorem d_Turtles_putAt_59 : decode b_Turtles_putAt 59 = .ok (.ldc 83, 2) := by decide +kernel
theorem d_Turtles_putAt_61 : decode b_Turtles_putAt 61 = .ok (.ireturn, 1) := by decide +kernel
theorem d_Turtles_goHome_0 : decode b_Turtles_goHome 0 = .ok (.aload_n 0, 1) := by decide +kernel
theorem d_Turtles_goHome_1 : decode b_Turtles_goHome 1 = .ok (.iconst 4, 1) := by decide +kernel
theorem d_Turtles_goHome_2 : decode b_Turtles_goHome 2 = .ok (.iconst 0, 1) := by decide +kernel
theorem d_Turtles_goHome_3 : decode b_Turtles_goHome 3 = .ok (.invokevirtual 122, 3) := by decide +kernel
theorem d_Turtles_goHome_6 : decode b_Turtles_goHome 6 = .ok (.aload_n 0, 1) := by decide +kernel
theorem d_Turtles_goHome_7 : decode b_Turtles_goHome 7 = .ok (.iconst 0, 1) := by decide +kernel
theorem d_Turtles_goHome_8 : decode b_Turtles_goHome 8 = .ok (.iconst 0, 1) := by decide +kernel
theorem d_Turtles_goHome_9 : decode b_Turtles_goHome 9 = .ok (.invokevirtual 128, 3) := by decide +kernel
theorem d_Turtles_goHome_12 : decode b_Turtles_goHome 12 = .ok (.ireturn, 1) := by decide +kernel
theorem lk_Turtles_128 : Cond.methodLink "TurtleWorld$Turtles" 128 ⟨"TurtleWorld$Turtles", "putAt", "(II)I"⟩ ∈ tw_T := tw_i6 98 (by decide +kernel) (by decide +kernel)
theorem in_Turtles_putAt : Cond.instanceMethod ⟨"TurtleWorld$Turtles", "putAt", "(II)I"⟩ ∈ tw_T := tw_i6 99 (by decide +kernel) (by decide +kernel)
theorem sel_Turtles_putAt : Cond.selects "TurtleWorld$Turtles" ⟨"TurtleWorld$Turtles", "putAt", "(II)I"⟩ ⟨"TurtleWorld$Turtles", "putAt", "(II)I"⟩ ∈ tw_T := tw_i6 100 (by decide +kernel) (by decide +kernel)
theorem d_Turtles_mean_0 : decode b_Turtles_mean 0 = .ok (.iload_n 1, 1) := by decide +kernel
theorem d_Turtles_mean_1 : decode b_Turtles_mean 1 = .ok (.invokestatic 30, 3) := by decide +kernel
theorem d_Turtles_mean_4 : decode b_Turtles_mean 4 = .ok (.ifCond .ne 6, 3) := by decide +kernel
theorem d_Turtles_mean_7 : decode b_Turtles_mean 7 = .ok (.ldc 62, 2) := by decide +kernel
theorem d_Turtles_mean_9 : decode b_Turtles_mean 9 = .ok (.ireturn, 1) := by decide +kernel
theorem d_Turtles_mean_10 : decode b_Turtles_mean 10 = .ok (.aload_n 0, 1) := by decide +kernel
theorem d_Turtles_mean_11 : decode b_Turtles_mean 11 = .ok (.iload_n 1, 1) := by decide +kernel
theorem d_Turtles_mean_12 : decode b_Turtles_mean 12 = .ok (.putfield 34, 3) := by decide +kernel
theorem d_Turtles_mean_15 : decode b_Turtles_mean 15 = .ok (.ldc 83, 2) := by decide +kernel
theorem d_Turtles_mean_17 : decode b_Turtles_mean 17 = .ok (.ireturn, 1) := by decide +kernel
