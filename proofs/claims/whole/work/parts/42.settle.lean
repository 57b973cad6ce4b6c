theorem d_Machine_closeParen_0 : decode b_Machine_closeParen 0 = .ok (.aload_n 0, 1) := by decide +kernel
theorem d_Machine_closeParen_1 : decode b_Machine_closeParen 1 = .ok (.getfield 15, 3) := by decide +kernel
theorem d_Machine_closeParen_4 : decode b_Machine_closeParen 4 = .ok (.aload_n 0, 1) := by decide +kernel
theorem d_Machine_closeParen_5 : decode b_Machine_closeParen 5 = .ok (.getfield 18, 3) := by decide +kernel
theorem d_Machine_closeParen_8 : decode b_Machine_closeParen 8 = .ok (.getfield 161, 3) := by decide +kernel
theorem d_Machine_closeParen_11 : decode b_Machine_closeParen 11 = .ok (.iload_n 1, 1) := by decide +kernel
theorem d_Machine_closeParen_12 : decode b_Machine_closeParen 12 = .ok (.iaload, 1) := by decide +kernel
theorem d_Machine_closeParen_13 : decode b_Machine_closeParen 13 = .ok (.aload_n 0, 1) := by decide +kernel
theorem d_Machine_closeParen_14 : decode b_Machine_closeParen 14 = .ok (.getfield 18, 3) := by decide +kernel
theorem d_Machine_closeParen_17 : decode b_Machine_closeParen 17 = .ok (.getfield 164, 3) := by decide +kernel
theorem d_Machine_closeParen_20 : decode b_Machine_closeParen 20 = .ok (.iload_n 1, 1) := by decide +kernel
theorem d_Machine_closeParen_21 : decode b_Machine_closeParen 21 = .ok (.iaload, 1) := by decide +kernel
theorem d_Machine_closeParen_22 : decode b_Machine_closeParen 22 = .ok (.invokevirtual 167, 3) := by decide +kernel
theorem d_Machine_closeParen_25 : decode b_Machine_closeParen 25 = .ok (.istore_n 3, 1) := by decide +kernel
theorem d_Machine_closeParen_26 : decode b_Machine_closeParen 26 = .ok (.iload_n 3, 1) := by decide +kernel
theorem d_Machine_closeParen_27 : decode b_Machine_closeParen 27 = .ok (.invokestatic 173, 3) := by decide +kernel
theorem d_Machine_closeParen_30 : decode b_Machine_closeParen 30 = .ok (.ifCond .eq 16, 3) := by decide +kernel
theorem d_Machine_closeParen_33 : decode b_Machine_closeParen 33 = .ok (.aload_n 0, 1) := by decide +kernel
theorem d_Machine_closeParen_34 : decode b_Machine_closeParen 34 = .ok (.getfield 15, 3) := by decide +kernel
theorem d_Machine_closeParen_37 : decode b_Machine_closeParen 37 = .ok (.iload_n 3, 1) := by decide +kernel
theorem d_Machine_closeParen_38 : decode b_Machine_closeParen 38 = .ok (.invokevirtual 180, 3) := by decide +kernel
theorem d_Machine_closeParen_41 : decode b_Machine_closeParen 41 = .ok (.bipush 76, 2) := by decide +kernel
theorem d_Machine_closeParen_43 : decode b_Machine_closeParen 43 = .ok (.if_icmp .eq 6, 3) := by decide +kernel
theorem d_Machine_closeParen_46 : decode b_Machine_closeParen 46 = .ok (.ldc 160, 2) := by decide +kernel
theorem d_Machine_closeParen_48 : decode b_Machine_closeParen 48 = .ok (.ireturn, 1) := by decide +kernel
theorem d_Machine_closeParen_49 : decode b_Machine_closeParen 49 = .ok (.aload_n 0, 1) := by decide +kernel
theorem d_Machine_closeParen_50 : decode b_Machine_closeParen 50 = .ok (.getfield 18, 3) := by decide +kernel
theorem d_Machine_closeParen_53 : decode b_Machine_closeParen 53 = .ok (.getfield 164, 3) := by decide +kernel
theorem d_Machine_closeParen_56 : decode b_Machine_closeParen 56 = .ok (.iload_n 1, 1) := by decide +kernel
theorem d_Machine_closeParen_57 : decode b_Machine_closeParen 57 = .ok (.dup2, 1) := by decide +kernel
theorem d_Machine_closeParen_58 : decode b_Machine_closeParen 58 = .ok (.iaload, 1) := by decide +kernel
theorem d_Machine_closeParen_59 : decode b_Machine_closeParen 59 = .ok (.iconst 1, 1) := by decide +kernel
theorem d_Machine_closeParen_60 : decode b_Machine_closeParen 60 = .ok (.iadd, 1) := by decide +kernel
theorem d_Machine_closeParen_61 : decode b_Machine_closeParen 61 = .ok (.iastore, 1) := by decide +kernel
theorem d_Machine_closeParen_62 : decode b_Machine_closeParen 62 = .ok (.aload_n 0, 1) := by decide +kernel
theorem d_Machine_closeParen_63 : decode b_Machine_closeParen 63 = .ok (.getfield 22, 3) := by decide +kernel
theorem d_Machine_closeParen_66 : decode b_Machine_closeParen 66 = .ok (.iload_n 2, 1) := by decide +kernel
theorem d_Machine_closeParen_67 : decode b_Machine_closeParen 67 = .ok (.putfield 42, 3) := by decide +kernel
theorem d_Machine_closeParen_70 : decode b_Machine_closeParen 70 = .ok (.ldc 110, 2) := by decide +kernel
theorem d_Machine_closeParen_72 : decode b_Machine_closeParen 72 = .ok (.ireturn, 1) := by decide +kernel
theorem d_Machine_settleWhole_0 : decode b_Machine_settleWhole 0 = .ok (.aload_n 0, 1) := by decide +kernel
theorem d_Machine_settleWhole_1 : decode b_Machine_settleWhole 1 = .ok (.getfield 111, 3) := by decide +kernel
theorem d_Machine_settleWhole_4 : decode b_Machine_settleWhole 4 = .ok (.ldc 114, 2) := by decide +kernel
theorem d_Machine_settleWhole_6 : decode b_Machine_settleWhole 6 = .ok (.if_icmp .ne 11, 3) := by decide +kernel
theorem d_Machine_settleWhole_9 : decode b_Machine_settleWhole 9 = .ok (.aload_n 0, 1) := by decide +kernel
theorem d_Machine_settleWhole_10 : decode b_Machine_settleWhole 10 = .ok (.iconst 0, 1) := by decide +kernel
theorem d_Machine_settleWhole_11 : decode b_Machine_settleWhole 11 = .ok (.putfield 62, 3) := by decide +kernel
theorem d_Machine_settleWhole_14 : decode b_Machine_settleWhole 14 = .ok (.ldc 110, 2) := by decide +kernel
theorem d_Machine_settleWhole_16 : decode b_Machine_settleWhole 16 = .ok (.ireturn, 1) := by decide +kernel
theorem d_Machine_settleWhole_17 : decode b_Machine_settleWhole 17 = .ok (.aload_n 0, 1) := by decide +kernel
theorem d_Machine_settleWhole_18 : decode b_Machine_settleWhole 18 = .ok (.getfield 18, 3) := by decide +kernel
theorem d_Machine_settleWhole_21 : decode b_Machine_settleWhole 21 = .ok (.getfield 164, 3) := by decide +kernel
theorem d_Machine_settleWhole_24 : decode b_Machine_settleWhole 24 = .ok (.iload_n 1, 1) := by decide +kernel
theorem d_Machine_settleWhole_25 : decode b_Machine_settleWhole 25 = .ok (.iaload, 1) := by decide +kernel
theorem d_Machine_settleWhole_26 : decode b_Machine_settleWhole 26 = .ok (.aload_n 0, 1) := by decide +kernel
theorem d_Machine_settleWhole_27 : decode b_Machine_settleWhole 27 = .ok (.getfield 15, 3) := by decide +kernel
theorem d_Machine_settleWhole_30 : decode b_Machine_settleWhole 30 = .ok (.aload_n 0, 1) := by decide +kernel
theorem d_Machine_settleWhole_31 : decode b_Machine_settleWhole 31 = .ok (.getfield 18, 3) := by decide +kernel
theorem d_Machine_settleWhole_34 : decode b_Machine_settleWhole 34 = .ok (.getfield 161, 3) := by decide +kernel
theorem d_Machine_settleWhole_37 : decode b_Machine_settleWhole 37 = .ok (.iload_n 1, 1) := by decide +kernel
theorem d_Machine_settleWhole_38 : decode b_Machine_settleWhole 38 = .ok (.iaload, 1) := by decide +kernel
theorem d_Machine_settleWhole_39 : decode b_Machine_settleWhole 39 = .ok (.invokevirtual 221, 3) := by decide +kernel
theorem d_Machine_settleWhole_42 : decode b_Machine_settleWhole 42 = .ok (.if_icmp .lt 7, 3) := by decide +kernel
theorem d_Machine_settleWhole_45 : decode b_Machine_settleWhole 45 = .ok (.iconst 1, 1) := by decide +kernel
theorem d_Machine_settleWhole_46 : decode b_Machine_settleWhole 46 = .ok (.goto 4, 3) := by decide +kernel
theorem d_Machine_settleWhole_49 : decode b_Machine_settleWhole 49 = .ok (.iconst 0, 1) := by decide +kernel
theorem d_Machine_settleWhole_50 : decode b_Machine_settleWhole 50 = .ok (.istore_n 2, 1) := by decide +kernel
theorem d_Machine_settleWhole_51 : decode b_Machine_settleWhole 51 = .ok (.aload_n 0, 1) := by decide +kernel
theorem d_Machine_settleWhole_52 : decode b_Machine_settleWhole 52 = .ok (.getfield 18, 3) := by decide +kernel
theorem d_Machine_settleWhole_55 : decode b_Machine_settleWhole 55 = .ok (.getfield 133, 3) := by decide +kernel
theorem d_Machine_settleWhole_58 : decode b_Machine_settleWhole 58 = .ok (.iload_n 1, 1) := by decide +kernel
theorem d_Machine_settleWhole_59 : decode b_Machine_settleWhole 59 = .ok (.iaload, 1) := by decide +kernel
theorem d_Machine_settleWhole_60 : decode b_Machine_settleWhole 60 = .ok (.bipush 6, 2) := by decide +kernel
theorem d_Machine_settleWhole_62 : decode b_Machine_settleWhole 62 = .ok (.if_icmp .lt 7, 3) := by decide +kernel
theorem d_Machine_settleWhole_65 : decode b_Machine_settleWhole 65 = .ok (.iload_n 2, 1) := by decide +kernel
theorem d_Machine_settleWhole_66 : decode b_Machine_settleWhole 66 = .ok (.ifCond .ne 6, 3) := by decide +kernel
theorem d_Machine_settleWhole_69 : decode b_Machine_settleWhole 69 = .ok (.ldc 254, 2) := by decide +kernel
theorem d_Machine_settleWhole_71 : decode b_Machine_settleWhole 71 = .ok (.ireturn, 1) := by decide +kernel
theorem d_Machine_settleWhole_72 : decode b_Machine_settleWhole 72 = .ok (.aload_n 0, 1) := by decide +kernel
theorem d_Machine_settleWhole_73 : decode b_Machine_settleWhole 73 = .ok (.aload_n 0, 1) := by decide +kernel
theorem d_Machine_settleWhole_74 : decode b_Machine_settleWhole 74 = .ok (.getfield 111, 3) := by decide +kernel
theorem d_Machine_settleWhole_77 : decode b_Machine_settleWhole 77 = .ok (.invokevirtual 170, 3) := by decide +kernel
theorem d_Machine_settleWhole_80 : decode b_Machine_settleWhole 80 = .ok (.ireturn, 1) := by decide +kernel
theorem lk_Machine_114 : Cond.constant "TurtleWorld$Machine" 114 (-2147483648) ∈ tw_T := tw_i5 39 (by decide +kernel) (by decide +kernel)
theorem lk_Machine_221 : Cond.methodLink "TurtleWorld$Machine" 221 ⟨"TurtleWorld$Heap", "count", "(I)I"⟩ ∈ tw_T := tw_i5 81 (by decide +kernel) (by decide +kernel)
theorem lk_Machine_254 : Cond.constant "TurtleWorld$Machine" 254 (-2147483643) ∈ tw_T := tw_i5 125 (by decide +kernel) (by decide +kernel)
theorem lk_Machine_170 : Cond.methodLink "TurtleWorld$Machine" 170 ⟨"TurtleWorld$Machine", "finishGiving", "(I)I"⟩ ∈ tw_T := tw_i5 40 (by decide +kernel) (by decide +kernel)
theorem in_Machine_finishGiving : Cond.instanceMethod ⟨"TurtleWorld$Machine", "finishGiving", "(I)I"⟩ ∈ tw_T := tw_i5 42 (by decide +kernel) (by decide +kernel)
theorem sel_Machine_finishGiving : Cond.selects "TurtleWorld$Machine" ⟨"TurtleWorld$Machine", "finishGiving", "(I)I"⟩ ⟨"TurtleWorld$Machine", "finishGiving", "(I)I"⟩ ∈ tw_T := tw_inS 34 (by decide +kernel) (by decide +kernel)
