theorem d_Deeds_local_0 : decode b_Deeds_local 0 = .ok (.aload_n 0, 1) := by decide +kernel
theorem d_Deeds_local_1 : decode b_Deeds_local 1 = .ok (.getfield 18, 3) := by decide +kernel
theorem d_Deeds_local_4 : decode b_Deeds_local 4 = .ok (.iconst 0, 1) := by decide +kernel
theorem d_Deeds_local_5 : decode b_Deeds_local 5 = .ok (.invokevirtual 262, 3) := by decide +kernel
theorem d_Deeds_local_8 : decode b_Deeds_local 8 = .ok (.istore_n 2, 1) := by decide +kernel
theorem d_Deeds_local_9 : decode b_Deeds_local 9 = .ok (.iload_n 2, 1) := by decide +kernel
theorem d_Deeds_local_10 : decode b_Deeds_local 10 = .ok (.ifCond .ge 7, 3) := by decide +kernel
theorem d_Deeds_local_13 : decode b_Deeds_local 13 = .ok (.ldc_w 265, 3) := by decide +kernel
theorem d_Deeds_local_16 : decode b_Deeds_local 16 = .ok (.ireturn, 1) := by decide +kernel
theorem d_Deeds_local_17 : decode b_Deeds_local 17 = .ok (.aload_n 0, 1) := by decide +kernel
theorem d_Deeds_local_18 : decode b_Deeds_local 18 = .ok (.getfield 18, 3) := by decide +kernel
theorem d_Deeds_local_21 : decode b_Deeds_local 21 = .ok (.getfield 266, 3) := by decide +kernel
theorem d_Deeds_local_24 : decode b_Deeds_local 24 = .ok (.iload_n 2, 1) := by decide +kernel
theorem d_Deeds_local_25 : decode b_Deeds_local 25 = .ok (.iaload, 1) := by decide +kernel
theorem d_Deeds_local_26 : decode b_Deeds_local 26 = .ok (.istore_n 3, 1) := by decide +kernel
theorem d_Deeds_local_27 : decode b_Deeds_local 27 = .ok (.aload_n 0, 1) := by decide +kernel
theorem d_Deeds_local_28 : decode b_Deeds_local 28 = .ok (.getfield 26, 3) := by decide +kernel
theorem d_Deeds_local_31 : decode b_Deeds_local 31 = .ok (.iload_n 1, 1) := by decide +kernel
theorem d_Deeds_local_32 : decode b_Deeds_local 32 = .ok (.iload_n 3, 1) := by decide +kernel
theorem d_Deeds_local_33 : decode b_Deeds_local 33 = .ok (.invokevirtual 269, 3) := by decide +kernel
theorem d_Deeds_local_36 : decode b_Deeds_local 36 = .ok (.ifCond .lt 6, 3) := by decide +kernel
theorem d_Deeds_local_39 : decode b_Deeds_local 39 = .ok (.ldc 206, 2) := by decide +kernel
theorem d_Deeds_local_41 : decode b_Deeds_local 41 = .ok (.ireturn, 1) := by decide +kernel
theorem d_Deeds_local_42 : decode b_Deeds_local 42 = .ok (.aload_n 0, 1) := by decide +kernel
theorem d_Deeds_local_43 : decode b_Deeds_local 43 = .ok (.getfield 26, 3) := by decide +kernel
theorem d_Deeds_local_46 : decode b_Deeds_local 46 = .ok (.getfield 272, 3) := by decide +kernel
theorem d_Deeds_local_49 : decode b_Deeds_local 49 = .ok (.iload_n 3, 1) := by decide +kernel
theorem d_Deeds_local_50 : decode b_Deeds_local 50 = .ok (.isub, 1) := by decide +kernel
theorem d_Deeds_local_51 : decode b_Deeds_local 51 = .ok (.bipush 12, 2) := by decide +kernel
theorem d_Deeds_local_53 : decode b_Deeds_local 53 = .ok (.if_icmp .lt 6, 3) := by decide +kernel
theorem d_Deeds_local_56 : decode b_Deeds_local 56 = .ok (.ldc 202, 2) := by decide +kernel
theorem d_Deeds_local_58 : decode b_Deeds_local 58 = .ok (.ireturn, 1) := by decide +kernel
theorem d_Deeds_local_59 : decode b_Deeds_local 59 = .ok (.aload_n 0, 1) := by decide +kernel
theorem d_Deeds_local_60 : decode b_Deeds_local 60 = .ok (.getfield 26, 3) := by decide +kernel
theorem d_Deeds_local_63 : decode b_Deeds_local 63 = .ok (.iload_n 1, 1) := by decide +kernel
theorem d_Deeds_local_64 : decode b_Deeds_local 64 = .ok (.ldc 206, 2) := by decide +kernel
theorem d_Deeds_local_66 : decode b_Deeds_local 66 = .ok (.invokevirtual 274, 3) := by decide +kernel
theorem d_Deeds_local_69 : decode b_Deeds_local 69 = .ok (.ldc 206, 2) := by decide +kernel
theorem d_Deeds_local_71 : decode b_Deeds_local 71 = .ok (.ireturn, 1) := by decide +kernel
theorem lk_Deeds_262 : Cond.methodLink "TurtleWorld$Deeds" 262 ⟨"TurtleWorld$Line", "callAt", "(I)I"⟩ ∈ tw_T := tw_i7 20 (by decide +kernel) (by decide +kernel)
theorem lk_Deeds_266 : Cond.fieldLink "TurtleWorld$Deeds" 266 "TurtleWorld$Line" "locals" "[I" ∈ tw_T := tw_i3 37 (by decide +kernel) (by decide +kernel)
theorem lk_Deeds_269 : Cond.methodLink "TurtleWorld$Deeds" 269 ⟨"TurtleWorld$Names", "findLocal", "(II)I"⟩ ∈ tw_T := tw_i7 25 (by decide +kernel) (by decide +kernel)
theorem lk_Deeds_272 : Cond.fieldLink "TurtleWorld$Deeds" 272 "TurtleWorld$Names" "locals" "I" ∈ tw_T := tw_i2 16 (by decide +kernel) (by decide +kernel)
theorem lk_Deeds_274 : Cond.methodLink "TurtleWorld$Deeds" 274 ⟨"TurtleWorld$Names", "addLocal", "(II)V"⟩ ∈ tw_T := tw_i7 26 (by decide +kernel) (by decide +kernel)
theorem lk_Deeds_265 : Cond.constant "TurtleWorld$Deeds" 265 (-2147483636) ∈ tw_T := tw_i7 24 (by decide +kernel) (by decide +kernel)
theorem d_Deeds_canBeInputs_0 : decode b_Deeds_canBeInputs 0 = .ok (.aload_n 0, 1) := by decide +kernel
theorem d_Deeds_canBeInputs_1 : decode b_Deeds_canBeInputs 1 = .ok (.getfield 15, 3) := by decide +kernel
theorem d_Deeds_canBeInputs_4 : decode b_Deeds_canBeInputs 4 = .ok (.iload_n 1, 1) := by decide +kernel
theorem d_Deeds_canBeInputs_5 : decode b_Deeds_canBeInputs 5 = .ok (.invokevirtual 173, 3) := by decide +kernel
theorem d_Deeds_canBeInputs_8 : decode b_Deeds_canBeInputs 8 = .ok (.istore_n 2, 1) := by decide +kernel
theorem d_Deeds_canBeInputs_9 : decode b_Deeds_canBeInputs 9 = .ok (.iload_n 2, 1) := by decide +kernel
theorem d_Deeds_canBeInputs_10 : decode b_Deeds_canBeInputs 10 = .ok (.iconst 5, 1) := by decide +kernel
theorem d_Deeds_canBeInputs_11 : decode b_Deeds_canBeInputs 11 = .ok (.if_icmp .le 5, 3) := by decide +kernel
theorem d_Deeds_canBeInputs_14 : decode b_Deeds_canBeInputs 14 = .ok (.iconst 0, 1) := by decide +kernel
theorem d_Deeds_canBeInputs_15 : decode b_Deeds_canBeInputs 15 = .ok (.ireturn, 1) := by decide +kernel
theorem d_Deeds_canBeInputs_16 : decode b_Deeds_canBeInputs 16 = .ok (.iconst 0, 1) := by decide +kernel
theorem d_Deeds_canBeInputs_17 : decode b_Deeds_canBeInputs 17 = .ok (.istore_n 3, 1) := by decide +kernel
theorem d_Deeds_canBeInputs_18 : decode b_Deeds_canBeInputs 18 = .ok (.iload_n 3, 1) := by decide +kernel
theorem d_Deeds_canBeInputs_19 : decode b_Deeds_canBeInputs 19 = .ok (.iload_n 2, 1) := by decide +kernel
theorem d_Deeds_canBeInputs_20 : decode b_Deeds_canBeInputs 20 = .ok (.if_icmp .ge 69, 3) := by decide +kernel
theorem d_Deeds_canBeInputs_23 : decode b_Deeds_canBeInputs 23 = .ok (.aload_n 0, 1) := by decide +kernel
theorem d_Deeds_canBeInputs_24 : decode b_Deeds_canBeInputs 24 = .ok (.getfield 15, 3) := by decide +kernel
theorem d_Deeds_canBeInputs_27 : decode b_Deeds_canBeInputs 27 = .ok (.iload_n 1, 1) := by decide +kernel
theorem d_Deeds_canBeInputs_28 : decode b_Deeds_canBeInputs 28 = .ok (.iload_n 3, 1) := by decide +kernel
theorem d_Deeds_canBeInputs_29 : decode b_Deeds_canBeInputs 29 = .ok (.invokevirtual 196, 3) := by decide +kernel
theorem d_Deeds_canBeInputs_32 : decode b_Deeds_canBeInputs 32 = .ok (.istore 4, 2) := by decide +kernel
theorem d_Deeds_canBeInputs_34 : decode b_Deeds_canBeInputs 34 = .ok (.iload 4, 2) := by decide +kernel
theorem d_Deeds_canBeInputs_36 : decode b_Deeds_canBeInputs 36 = .ok (.invokestatic 78, 3) := by decide +kernel
theorem d_Deeds_canBeInputs_39 : decode b_Deeds_canBeInputs 39 = .ok (.ifCond .ne 5, 3) := by decide +kernel
theorem d_Deeds_canBeInputs_42 : decode b_Deeds_canBeInputs 42 = .ok (.iconst 0, 1) := by decide +kernel
theorem d_Deeds_canBeInputs_43 : decode b_Deeds_canBeInputs 43 = .ok (.ireturn, 1) := by decide +kernel
theorem d_Deeds_canBeInputs_44 : decode b_Deeds_canBeInputs 44 = .ok (.iconst 0, 1) := by decide +kernel
theorem d_Deeds_canBeInputs_45 : decode b_Deeds_canBeInputs 45 = .ok (.istore 5, 2) := by decide +kernel
theorem d_Deeds_canBeInputs_47 : decode b_Deeds_canBeInputs 47 = .ok (.iload 5, 2) := by decide +kernel
theorem d_Deeds_canBeInputs_49 : decode b_Deeds_canBeInputs 49 = .ok (.iload_n 3, 1) := by decide +kernel
theorem d_Deeds_canBeInputs_50 : decode b_Deeds_canBeInputs 50 = .ok (.if_icmp .ge 33, 3) := by decide +kernel
theorem d_Deeds_canBeInputs_53 : decode b_Deeds_canBeInputs 53 = .ok (.aload_n 0, 1) := by decide +kernel
theorem d_Deeds_canBeInputs_54 : decode b_Deeds_canBeInputs 54 = .ok (.getfield 15, 3) := by decide +kernel
theorem d_Deeds_canBeInputs_57 : decode b_Deeds_canBeInputs 57 = .ok (.iload 4, 2) := by decide +kernel
theorem d_Deeds_canBeInputs_59 : decode b_Deeds_canBeInputs 59 = .ok (.aload_n 0, 1) := by decide +kernel
theorem d_Deeds_canBeInputs_60 : decode b_Deeds_canBeInputs 60 = .ok (.getfield 15, 3) := by decide +kernel
theorem d_Deeds_canBeInputs_63 : decode b_Deeds_canBeInputs 63 = .ok (.iload_n 1, 1) := by decide +kernel
theorem d_Deeds_canBeInputs_64 : decode b_Deeds_canBeInputs 64 = .ok (.iload 5, 2) := by decide +kernel
theorem d_Deeds_canBeInputs_66 : decode b_Deeds_canBeInputs 66 = .ok (.invokevirtual 196, 3) := by decide +kernel
theorem d_Deeds_canBeInputs_69 : decode b_Deeds_canBeInputs 69 = .ok (.invokevirtual 84, 3) := by decide +kernel
theorem d_Deeds_canBeInputs_72 : decode b_Deeds_canBeInputs 72 = .ok (.ifCond .eq 5, 3) := by decide +kernel
theorem d_Deeds_canBeInputs_75 : decode b_Deeds_canBeInputs 75 = .ok (.iconst 0, 1) := by decide +kernel
theorem d_Deeds_canBeInputs_76 : decode b_Deeds_canBeInputs 76 = .ok (.ireturn, 1) := by decide +kernel
theorem d_Deeds_canBeInputs_77 : decode b_Deeds_canBeInputs 77 = .ok (.iinc 5 1, 3) := by decide +kernel
theorem d_Deeds_canBeInputs_80 : decode b_Deeds_canBeInputs 80 = .ok (.goto (-33), 3) := by decide +kernel
theorem d_Deeds_canBeInputs_83 : decode b_Deeds_canBeInputs 83 = .ok (.iinc 3 1, 3) := by decide +kernel
theorem d_Deeds_canBeInputs_86 : decode b_Deeds_canBeInputs 86 = .ok (.goto (-68), 3) := by decide +kernel
theorem d_Deeds_canBeInputs_89 : decode b_Deeds_canBeInputs 89 = .ok (.iconst 1, 1) := by decide +kernel
theorem d_Deeds_canBeInputs_90 : decode b_Deeds_canBeInputs 90 = .ok (.ireturn, 1) := by decide +kernel
theorem d_Deeds_arity_0 : decode b_Deeds_arity 0 = .ok (.aload_n 0, 1) := by decide +kernel
theorem d_Deeds_arity_1 : decode b_Deeds_arity 1 = .ok (.getfield 30, 3) := by decide +kernel
theorem d_Deeds_arity_4 : decode b_Deeds_arity 4 = .ok (.iload_n 1, 1) := by decide +kernel
theorem d_Deeds_arity_5 : decode b_Deeds_arity 5 = .ok (.invokevirtual 289, 3) := by decide +kernel
theorem d_Deeds_arity_8 : decode b_Deeds_arity 8 = .ok (.istore_n 2, 1) := by decide +kernel
theorem d_Deeds_arity_9 : decode b_Deeds_arity 9 = .ok (.iload_n 2, 1) := by decide +kernel
theorem d_Deeds_arity_10 : decode b_Deeds_arity 10 = .ok (.ifCond .ge 7, 3) := by decide +kernel
theorem d_Deeds_arity_13 : decode b_Deeds_arity 13 = .ok (.iconst (-1), 1) := by decide +kernel
theorem d_Deeds_arity_14 : decode b_Deeds_arity 14 = .ok (.goto 19, 3) := by decide +kernel
theorem d_Deeds_arity_17 : decode b_Deeds_arity 17 = .ok (.aload_n 0, 1) := by decide +kernel
theorem d_Deeds_arity_18 : decode b_Deeds_arity 18 = .ok (.getfield 15, 3) := by decide +kernel
theorem d_Deeds_arity_21 : decode b_Deeds_arity 21 = .ok (.aload_n 0, 1) := by decide +kernel
theorem d_Deeds_arity_22 : decode b_Deeds_arity 22 = .ok (.getfield 30, 3) := by decide +kernel
theorem d_Deeds_arity_25 : decode b_Deeds_arity 25 = .ok (.getfield 290, 3) := by decide +kernel
theorem d_Deeds_arity_28 : decode b_Deeds_arity 28 = .ok (.iload_n 2, 1) := by decide +kernel
theorem d_Deeds_arity_29 : decode b_Deeds_arity 29 = .ok (.iaload, 1) := by decide +kernel
theorem d_Deeds_arity_30 : decode b_Deeds_arity 30 = .ok (.invokevirtual 173, 3) := by decide +kernel
theorem d_Deeds_arity_33 : decode b_Deeds_arity 33 = .ok (.invokestatic 127, 3) := by decide +kernel
theorem d_Deeds_arity_36 : decode b_Deeds_arity 36 = .ok (.ireturn, 1) := by decide +kernel
theorem lk_Deeds_289 : Cond.methodLink "TurtleWorld$Deeds" 289 ⟨"TurtleWorld$Procedures", "find", "(I)I"⟩ ∈ tw_T := tw_i7 43 (by decide +kernel) (by decide +kernel)
theorem lk_Deeds_290 : Cond.fieldLink "TurtleWorld$Deeds" 290 "TurtleWorld$Procedures" "inputs" "[I" ∈ tw_T := tw_i2 52 (by decide +kernel) (by decide +kernel)
theorem d_Deeds_text_0 : decode b_Deeds_text 0 = .ok (.aload_n 0, 1) := by decide +kernel
theorem d_Deeds_text_1 : decode b_Deeds_text 1 = .ok (.getfield 30, 3) := by decide +kernel
theorem d_Deeds_text_4 : decode b_Deeds_text 4 = .ok (.iload_n 1, 1) := by decide +kernel
theorem d_Deeds_text_5 : decode b_Deeds_text 5 = .ok (.invokevirtual 289, 3) := by decide +kernel
theorem d_Deeds_text_8 : decode b_Deeds_text 8 = .ok (.istore_n 2, 1) := by decide +kernel
theorem d_Deeds_text_9 : decode b_Deeds_text 9 = .ok (.iload_n 2, 1) := by decide +kernel
theorem d_Deeds_text_10 : decode b_Deeds_text 10 = .ok (.ifCond .ge 8, 3) := by decide +kernel
theorem d_Deeds_text_13 : decode b_Deeds_text 13 = .ok (.ldc 142, 2) := by decide +kernel
theorem d_Deeds_text_15 : decode b_Deeds_text 15 = .ok (.goto 12, 3) := by decide +kernel
theorem d_Deeds_text_18 : decode b_Deeds_text 18 = .ok (.aload_n 0, 1) := by decide +kernel
theorem d_Deeds_text_19 : decode b_Deeds_text 19 = .ok (.getfield 30, 3) := by decide +kernel
theorem d_Deeds_text_22 : decode b_Deeds_text 22 = .ok (.getfield 293, 3) := by decide +kernel
theorem d_Deeds_text_25 : decode b_Deeds_text 25 = .ok (.iload_n 2, 1) := by decide +kernel
theorem d_Deeds_text_26 : decode b_Deeds_text 26 = .ok (.iaload, 1) := by decide +kernel
theorem d_Deeds_text_27 : decode b_Deeds_text 27 = .ok (.ireturn, 1) := by decide +kernel
theorem lk_Deeds_293 : Cond.fieldLink "TurtleWorld$Deeds" 293 "TurtleWorld$Procedures" "bodies" "[I" ∈ tw_T := tw_i2 56 (by decide +kernel) (by decide +kernel)
theorem d_Machine_repeat_0 : decode b_Machine_repeat 0 = .ok (.iload_n 1, 1) := by decide +kernel
theorem d_Machine_repeat_1 : decode b_Machine_repeat 1 = .ok (.ifCond .gt 6, 3) := by decide +kernel
theorem d_Machine_repeat_4 : decode b_Machine_repeat 4 = .ok (.ldc 114, 2) := by decide +kernel
theorem d_Machine_repeat_6 : decode b_Machine_repeat 6 = .ok (.ireturn, 1) := by decide +kernel
theorem d_Machine_repeat_7 : decode b_Machine_repeat 7 = .ok (.aload_n 0, 1) := by decide +kernel
theorem d_Machine_repeat_8 : decode b_Machine_repeat 8 = .ok (.iconst 3, 1) := by decide +kernel
theorem d_Machine_repeat_9 : decode b_Machine_repeat 9 = .ok (.iload_n 2, 1) := by decide +kernel
theorem d_Machine_repeat_10 : decode b_Machine_repeat 10 = .ok (.ldc 114, 2) := by decide +kernel
theorem d_Machine_repeat_12 : decode b_Machine_repeat 12 = .ok (.ldc 114, 2) := by decide +kernel
theorem d_Machine_repeat_14 : decode b_Machine_repeat 14 = .ok (.invokevirtual 353, 3) := by decide +kernel
theorem d_Machine_repeat_17 : decode b_Machine_repeat 17 = .ok (.istore_n 3, 1) := by decide +kernel
theorem d_Machine_repeat_18 : decode b_Machine_repeat 18 = .ok (.iload_n 3, 1) := by decide +kernel
theorem d_Machine_repeat_19 : decode b_Machine_repeat 19 = .ok (.ldc 110, 2) := by decide +kernel
theorem d_Machine_repeat_21 : decode b_Machine_repeat 21 = .ok (.if_icmp .ne 21, 3) := by decide +kernel
theorem d_Machine_repeat_24 : decode b_Machine_repeat 24 = .ok (.aload_n 0, 1) := by decide +kernel
theorem d_Machine_repeat_25 : decode b_Machine_repeat 25 = .ok (.getfield 18, 3) := by decide +kernel
theorem d_Machine_repeat_28 : decode b_Machine_repeat 28 = .ok (.getfield 258, 3) := by decide +kernel
theorem d_Machine_repeat_31 : decode b_Machine_repeat 31 = .ok (.aload_n 0, 1) := by decide +kernel
theorem d_Machine_repeat_32 : decode b_Machine_repeat 32 = .ok (.getfield 18, 3) := by decide +kernel
theorem d_Machine_repeat_35 : decode b_Machine_repeat 35 = .ok (.getfield 130, 3) := by decide +kernel
theorem d_Machine_repeat_38 : decode b_Machine_repeat 38 = .ok (.iconst 1, 1) := by decide +kernel
theorem d_Machine_repeat_39 : decode b_Machine_repeat 39 = .ok (.isub, 1) := by decide +kernel
theorem d_Machine_repeat_40 : decode b_Machine_repeat 40 = .ok (.iload_n 1, 1) := by decide +kernel
theorem d_Machine_repeat_41 : decode b_Machine_repeat 41 = .ok (.iastore, 1) := by decide +kernel
theorem d_Machine_repeat_42 : decode b_Machine_repeat 42 = .ok (.iload_n 3, 1) := by decide +kernel
theorem d_Machine_repeat_43 : decode b_Machine_repeat 43 = .ok (.ireturn, 1) := by decide +kernel
theorem lk_Machine_353 : Cond.methodLink "TurtleWorld$Machine" 353 ⟨"TurtleWorld$Machine", "open", "(IIII)I"⟩ ∈ tw_T := tw_i7 62 (by decide +kernel) (by decide +kernel)
theorem hd_Machine_open : y_Machine_open.cls ≠ "java/lang/invoke/MethodHandle" ∧ y_Machine_open.cls ≠ "java/lang/invoke/VarHandle" ∧ (parseMethodDescriptor y_Machine_open.desc).map (fun d => d.parameters.length) = some 4 := by decide +kernel
theorem in_Machine_open : Cond.instanceMethod ⟨"TurtleWorld$Machine", "open", "(IIII)I"⟩ ∈ tw_T := tw_i7 64 (by decide +kernel) (by decide +kernel)
theorem sel_Machine_open : Cond.selects "TurtleWorld$Machine" ⟨"TurtleWorld$Machine", "open", "(IIII)I"⟩ ⟨"TurtleWorld$Machine", "open", "(IIII)I"⟩ ∈ tw_T := tw_inS 77 (by decide +kernel) (by decide +kernel)
theorem lk_Machine_258 : Cond.fieldLink "TurtleWorld$Machine" 258 "TurtleWorld$Line" "limit" "[I" ∈ tw_T := tw_i3 25 (by decide +kernel) (by decide +kernel)
theorem d_Machine_map_0 : decode b_Machine_map 0 = .ok (.aload_n 0, 1) := by decide +kernel
theorem d_Machine_map_1 : decode b_Machine_map 1 = .ok (.getfield 18, 3) := by decide +kernel
theorem d_Machine_map_4 : decode b_Machine_map 4 = .ok (.getfield 293, 3) := by decide +kernel
theorem d_Machine_map_7 : decode b_Machine_map 7 = .ok (.sipush 30000, 3) := by decide +kernel
theorem d_Machine_map_10 : decode b_Machine_map 10 = .ok (.if_icmp .lt 7, 3) := by decide +kernel
theorem d_Machine_map_13 : decode b_Machine_map 13 = .ok (.ldc_w 296, 3) := by decide +kernel
theorem d_Machine_map_16 : decode b_Machine_map 16 = .ok (.ireturn, 1) := by decide +kernel
theorem d_Machine_map_17 : decode b_Machine_map 17 = .ok (.aload_n 0, 1) := by decide +kernel
theorem d_Machine_map_18 : decode b_Machine_map 18 = .ok (.getfield 15, 3) := by decide +kernel
theorem d_Machine_map_21 : decode b_Machine_map 21 = .ok (.iload_n 1, 1) := by decide +kernel
theorem d_Machine_map_22 : decode b_Machine_map 22 = .ok (.invokevirtual 221, 3) := by decide +kernel
theorem d_Machine_map_25 : decode b_Machine_map 25 = .ok (.ifCond .ne 7, 3) := by decide +kernel
theorem d_Machine_map_28 : decode b_Machine_map 28 = .ok (.iconst 1, 1) := by decide +kernel
theorem d_Machine_map_29 : decode b_Machine_map 29 = .ok (.goto 4, 3) := by decide +kernel
theorem d_Machine_map_32 : decode b_Machine_map 32 = .ok (.iconst 0, 1) := by decide +kernel
theorem d_Machine_map_33 : decode b_Machine_map 33 = .ok (.istore_n 3, 1) := by decide +kernel
theorem d_Machine_map_34 : decode b_Machine_map 34 = .ok (.iload_n 3, 1) := by decide +kernel
theorem d_Machine_map_35 : decode b_Machine_map 35 = .ok (.ifCond .eq 15, 3) := by decide +kernel
theorem d_Machine_map_38 : decode b_Machine_map 38 = .ok (.aload_n 0, 1) := by decide +kernel
theorem d_Machine_map_39 : decode b_Machine_map 39 = .ok (.getfield 15, 3) := by decide +kernel
theorem d_Machine_map_42 : decode b_Machine_map 42 = .ok (.iconst 0, 1) := by decide +kernel
theorem d_Machine_map_43 : decode b_Machine_map 43 = .ok (.iconst 1, 1) := by decide +kernel
theorem d_Machine_map_44 : decode b_Machine_map 44 = .ok (.invokevirtual 392, 3) := by decide +kernel
theorem d_Machine_map_47 : decode b_Machine_map 47 = .ok (.goto 13, 3) := by decide +kernel
theorem d_Machine_map_50 : decode b_Machine_map 50 = .ok (.aload_n 0, 1) := by decide +kernel
theorem d_Machine_map_51 : decode b_Machine_map 51 = .ok (.bipush 10, 2) := by decide +kernel
theorem d_Machine_map_53 : decode b_Machine_map 53 = .ok (.iload_n 2, 1) := by decide +kernel
theorem d_Machine_map_54 : decode b_Machine_map 54 = .ok (.ldc 114, 2) := by decide +kernel
theorem d_Machine_map_56 : decode b_Machine_map 56 = .ok (.iload_n 1, 1) := by decide +kernel
theorem d_Machine_map_57 : decode b_Machine_map 57 = .ok (.invokevirtual 353, 3) := by decide +kernel
theorem d_Machine_map_60 : decode b_Machine_map 60 = .ok (.istore 4, 2) := by decide +kernel
theorem d_Machine_map_62 : decode b_Machine_map 62 = .ok (.iload 4, 2) := by decide +kernel
theorem d_Machine_map_64 : decode b_Machine_map 64 = .ok (.ldc 114, 2) := by decide +kernel
theorem d_Machine_map_66 : decode b_Machine_map 66 = .ok (.if_icmp .ne 7, 3) := by decide +kernel
theorem d_Machine_map_69 : decode b_Machine_map 69 = .ok (.ldc_w 296, 3) := by decide +kernel
theorem d_Machine_map_72 : decode b_Machine_map 72 = .ok (.ireturn, 1) := by decide +kernel
theorem d_Machine_map_73 : decode b_Machine_map 73 = .ok (.iload 4, 2) := by decide +kernel
theorem d_Machine_map_75 : decode b_Machine_map 75 = .ok (.ldc_w 340, 3) := by decide +kernel
theorem d_Machine_map_78 : decode b_Machine_map 78 = .ok (.if_icmp .eq 16, 3) := by decide +kernel
theorem d_Machine_map_81 : decode b_Machine_map 81 = .ok (.aload_n 0, 1) := by decide +kernel
theorem d_Machine_map_82 : decode b_Machine_map 82 = .ok (.getfield 18, 3) := by decide +kernel
theorem d_Machine_map_85 : decode b_Machine_map 85 = .ok (.dup, 1) := by decide +kernel
theorem d_Machine_map_86 : decode b_Machine_map 86 = .ok (.getfield 293, 3) := by decide +kernel
theorem d_Machine_map_89 : decode b_Machine_map 89 = .ok (.iconst 1, 1) := by decide +kernel
theorem d_Machine_map_90 : decode b_Machine_map 90 = .ok (.iadd, 1) := by decide +kernel
theorem d_Machine_map_91 : decode b_Machine_map 91 = .ok (.putfield 293, 3) := by decide +kernel
theorem d_Machine_map_94 : decode b_Machine_map 94 = .ok (.iload 4, 2) := by decide +kernel
theorem d_Machine_map_96 : decode b_Machine_map 96 = .ok (.ireturn, 1) := by decide +kernel
theorem lk_Machine_293 : Cond.fieldLink "TurtleWorld$Machine" 293 "TurtleWorld$Line" "made" "I" ∈ tw_T := tw_i3 6 (by decide +kernel) (by decide +kernel)
theorem lk_Machine_296 : Cond.constant "TurtleWorld$Machine" 296 (-2147483640) ∈ tw_T := tw_i5 170 (by decide +kernel) (by decide +kernel)
theorem lk_Machine_392 : Cond.methodLink "TurtleWorld$Machine" 392 ⟨"TurtleWorld$Heap", "newList", "(II)I"⟩ ∈ tw_T := tw_i7 88 (by decide +kernel) (by decide +kernel)
theorem d_Machine_ask_0 : decode b_Machine_ask 0 = .ok (.iload_n 1, 1) := by decide +kernel
theorem d_Machine_ask_1 : decode b_Machine_ask 1 = .ok (.invokestatic 395, 3) := by decide +kernel
theorem d_Machine_ask_4 : decode b_Machine_ask 4 = .ok (.ifCond .ne 7, 3) := by decide +kernel
theorem d_Machine_ask_7 : decode b_Machine_ask 7 = .ok (.ldc_w 276, 3) := by decide +kernel
theorem d_Machine_ask_10 : decode b_Machine_ask 10 = .ok (.ireturn, 1) := by decide +kernel
theorem d_Machine_ask_11 : decode b_Machine_ask 11 = .ok (.aload_n 0, 1) := by decide +kernel
theorem d_Machine_ask_12 : decode b_Machine_ask 12 = .ok (.bipush 7, 2) := by decide +kernel
theorem d_Machine_ask_14 : decode b_Machine_ask 14 = .ok (.iload_n 2, 1) := by decide +kernel
theorem d_Machine_ask_15 : decode b_Machine_ask 15 = .ok (.aload_n 0, 1) := by decide +kernel
theorem d_Machine_ask_16 : decode b_Machine_ask 16 = .ok (.getfield 34, 3) := by decide +kernel
theorem d_Machine_ask_19 : decode b_Machine_ask 19 = .ok (.getfield 140, 3) := by decide +kernel
theorem d_Machine_ask_22 : decode b_Machine_ask 22 = .ok (.ldc 114, 2) := by decide +kernel
theorem d_Machine_ask_24 : decode b_Machine_ask 24 = .ok (.invokevirtual 353, 3) := by decide +kernel
theorem d_Machine_ask_27 : decode b_Machine_ask 27 = .ok (.istore_n 3, 1) := by decide +kernel
theorem d_Machine_ask_28 : decode b_Machine_ask 28 = .ok (.iload_n 3, 1) := by decide +kernel
theorem d_Machine_ask_29 : decode b_Machine_ask 29 = .ok (.ldc 110, 2) := by decide +kernel
theorem d_Machine_ask_31 : decode b_Machine_ask 31 = .ok (.if_icmp .ne 12, 3) := by decide +kernel
theorem d_Machine_ask_34 : decode b_Machine_ask 34 = .ok (.aload_n 0, 1) := by decide +kernel
theorem d_Machine_ask_35 : decode b_Machine_ask 35 = .ok (.getfield 34, 3) := by decide +kernel
theorem d_Machine_ask_38 : decode b_Machine_ask 38 = .ok (.iload_n 1, 1) := by decide +kernel
theorem d_Machine_ask_39 : decode b_Machine_ask 39 = .ok (.invokevirtual 398, 3) := by decide +kernel
theorem d_Machine_ask_42 : decode b_Machine_ask 42 = .ok (.pop, 1) := by decide +kernel
theorem d_Machine_ask_43 : decode b_Machine_ask 43 = .ok (.iload_n 3, 1) := by decide +kernel
theorem d_Machine_ask_44 : decode b_Machine_ask 44 = .ok (.ireturn, 1) := by decide +kernel
theorem lk_Machine_395 : Cond.methodLink "TurtleWorld$Machine" 395 ⟨"TurtleWorld$Turtles", "exists", "(I)Z"⟩ ∈ tw_T := tw_i7 93 (by decide +kernel) (by decide +kernel)
theorem lk_Machine_398 : Cond.methodLink "TurtleWorld$Machine" 398 ⟨"TurtleWorld$Turtles", "mean", "(I)I"⟩ ∈ tw_T := tw_i7 94 (by decide +kernel) (by decide +kernel)
theorem hd_Turtles_mean : y_Turtles_mean.cls ≠ "java/lang/invoke/MethodHandle" ∧ y_Turtles_mean.cls ≠ "java/lang/invoke/VarHandle" ∧ (parseMethodDescriptor y_Turtles_mean.desc).map (fun d => d.parameters.length) = some 1 := by decide +kernel
theorem in_Turtles_mean : Cond.instanceMethod ⟨"TurtleWorld$Turtles", "mean", "(I)I"⟩ ∈ tw_T := tw_i6 111 (by decide +kernel) (by decide +kernel)
theorem sel_Turtles_mean : Cond.selects "TurtleWorld$Turtles" ⟨"TurtleWorld$Turtles", "mean", "(I)I"⟩ ⟨"TurtleWorld$Turtles", "mean", "(I)I"⟩ ∈ tw_T := tw_i6 112 (by decide +kernel) (by decide +kernel)
theorem lk_Machine_276 : Cond.constant "TurtleWorld$Machine" 276 (-2147483645) ∈ tw_T := tw_i5 159 (by decide +kernel) (by decide +kernel)
theorem hd_Turtles_colourAt : y_Turtles_colourAt.cls ≠ "java/lang/invoke/MethodHandle" ∧ y_Turtles_colourAt.cls ≠ "java/lang/invoke/VarHandle" ∧ (parseMethodDescriptor y_Turtles_colourAt.desc).map (fun d => d.parameters.length) = some 2 := by decide +kernel
theorem hd_Names_globalName : y_Names_globalName.cls ≠ "java/lang/invoke/MethodHandle" ∧ y_Names_globalName.cls ≠ "java/lang/invoke/VarHandle" ∧ (parseMethodDescriptor y_Names_globalName.desc).map (fun d => d.parameters.length) = some 1 := by decide +kernel
theorem hd_Heap_letter : y_Heap_letter.cls ≠ "java/lang/invoke/MethodHandle" ∧ y_Heap_letter.cls ≠ "java/lang/invoke/VarHandle" ∧ (parseMethodDescriptor y_Heap_letter.desc).map (fun d => d.parameters.length) = some 2 := by decide +kernel
theorem d_Reader_closeInputs_0 : decode b_Reader_closeInputs 0 = .ok (.aload_n 0, 1) := by decide +kernel
theorem d_Reader_closeInputs_1 : decode b_Reader_closeInputs 1 = .ok (.getfield 72, 3) := by decide +kernel
theorem d_Reader_closeInputs_4 : decode b_Reader_closeInputs 4 = .ok (.iconst 2, 1) := by decide +kernel
theorem d_Reader_closeInputs_5 : decode b_Reader_closeInputs 5 = .ok (.if_icmp .ne 48, 3) := by decide +kernel
theorem d_Reader_closeInputs_8 : decode b_Reader_closeInputs 8 = .ok (.aload_n 0, 1) := by decide +kernel
theorem d_Reader_closeInputs_9 : decode b_Reader_closeInputs 9 = .ok (.getfield 84, 3) := by decide +kernel
theorem d_Reader_closeInputs_12 : decode b_Reader_closeInputs 12 = .ok (.sipush 200, 3) := by decide +kernel
theorem d_Reader_closeInputs_15 : decode b_Reader_closeInputs 15 = .ok (.if_icmp .ge 38, 3) := by decide +kernel
theorem d_Reader_closeInputs_18 : decode b_Reader_closeInputs 18 = .ok (.aload_n 0, 1) := by decide +kernel
theorem d_Reader_closeInputs_19 : decode b_Reader_closeInputs 19 = .ok (.getfield 24, 3) := by decide +kernel
theorem d_Reader_closeInputs_22 : decode b_Reader_closeInputs 22 = .ok (.aload_n 0, 1) := by decide +kernel
theorem d_Reader_closeInputs_23 : decode b_Reader_closeInputs 23 = .ok (.getfield 84, 3) := by decide +kernel
theorem d_Reader_closeInputs_26 : decode b_Reader_closeInputs 26 = .ok (.aload_n 0, 1) := by decide +kernel
theorem d_Reader_closeInputs_27 : decode b_Reader_closeInputs 27 = .ok (.getfield 30, 3) := by decide +kernel
theorem d_Reader_closeInputs_30 : decode b_Reader_closeInputs 30 = .ok (.aload_n 0, 1) := by decide +kernel
theorem d_Reader_closeInputs_31 : decode b_Reader_closeInputs 31 = .ok (.getfield 15, 3) := by decide +kernel
theorem d_Reader_closeInputs_34 : decode b_Reader_closeInputs 34 = .ok (.iconst 0, 1) := by decide +kernel
theorem d_Reader_closeInputs_35 : decode b_Reader_closeInputs 35 = .ok (.aload_n 0, 1) := by decide +kernel
theorem d_Reader_closeInputs_36 : decode b_Reader_closeInputs 36 = .ok (.getfield 75, 3) := by decide +kernel
theorem d_Reader_closeInputs_39 : decode b_Reader_closeInputs 39 = .ok (.invokevirtual 123, 3) := by decide +kernel
theorem d_Reader_closeInputs_42 : decode b_Reader_closeInputs 42 = .ok (.iastore, 1) := by decide +kernel
theorem d_Reader_closeInputs_43 : decode b_Reader_closeInputs 43 = .ok (.aload_n 0, 1) := by decide +kernel
theorem d_Reader_closeInputs_44 : decode b_Reader_closeInputs 44 = .ok (.iconst 0, 1) := by decide +kernel
theorem d_Reader_closeInputs_45 : decode b_Reader_closeInputs 45 = .ok (.putfield 75, 3) := by decide +kernel
theorem d_Reader_closeInputs_48 : decode b_Reader_closeInputs 48 = .ok (.aload_n 0, 1) := by decide +kernel
theorem d_Reader_closeInputs_49 : decode b_Reader_closeInputs 49 = .ok (.iconst 3, 1) := by decide +kernel
theorem d_Reader_closeInputs_50 : decode b_Reader_closeInputs 50 = .ok (.putfield 72, 3) := by decide +kernel
theorem d_Reader_closeInputs_53 : decode b_Reader_closeInputs 53 = .ok (.return_, 1) := by decide +kernel
theorem hd_Heap_newListOf : y_Heap_newListOf.cls ≠ "java/lang/invoke/MethodHandle" ∧ y_Heap_newListOf.cls ≠ "java/lang/invoke/VarHandle" ∧ (parseMethodDescriptor y_Heap_newListOf.desc).map (fun d => d.parameters.length) = some 3 := by decide +kernel
theorem d_Reader_closeList_0 : decode b_Reader_closeList 0 = .ok (.aload_n 0, 1) := by decide +kernel
theorem d_Reader_closeList_1 : decode b_Reader_closeList 1 = .ok (.getfield 78, 3) := by decide +kernel
theorem d_Reader_closeList_4 : decode b_Reader_closeList 4 = .ok (.ifCond .ne 10, 3) := by decide +kernel
theorem d_Reader_closeList_7 : decode b_Reader_closeList 7 = .ok (.aload_n 0, 1) := by decide +kernel
theorem d_Reader_closeList_8 : decode b_Reader_closeList 8 = .ok (.iconst 4, 1) := by decide +kernel
theorem d_Reader_closeList_9 : decode b_Reader_closeList 9 = .ok (.iload_n 1, 1) := by decide +kernel
theorem d_Reader_closeList_10 : decode b_Reader_closeList 10 = .ok (.invokevirtual 54, 3) := by decide +kernel
theorem d_Reader_closeList_13 : decode b_Reader_closeList 13 = .ok (.return_, 1) := by decide +kernel
theorem d_Reader_closeList_14 : decode b_Reader_closeList 14 = .ok (.aload_n 0, 1) := by decide +kernel
theorem d_Reader_closeList_15 : decode b_Reader_closeList 15 = .ok (.dup, 1) := by decide +kernel
theorem d_Reader_closeList_16 : decode b_Reader_closeList 16 = .ok (.getfield 78, 3) := by decide +kernel
theorem d_Reader_closeList_19 : decode b_Reader_closeList 19 = .ok (.iconst 1, 1) := by decide +kernel
theorem d_Reader_closeList_20 : decode b_Reader_closeList 20 = .ok (.isub, 1) := by decide +kernel
theorem d_Reader_closeList_21 : decode b_Reader_closeList 21 = .ok (.putfield 78, 3) := by decide +kernel
theorem d_Reader_closeList_24 : decode b_Reader_closeList 24 = .ok (.aload_n 0, 1) := by decide +kernel
theorem d_Reader_closeList_25 : decode b_Reader_closeList 25 = .ok (.getfield 18, 3) := by decide +kernel
theorem d_Reader_closeList_28 : decode b_Reader_closeList 28 = .ok (.aload_n 0, 1) := by decide +kernel
theorem d_Reader_closeList_29 : decode b_Reader_closeList 29 = .ok (.getfield 78, 3) := by decide +kernel
theorem d_Reader_closeList_32 : decode b_Reader_closeList 32 = .ok (.iaload, 1) := by decide +kernel
theorem d_Reader_closeList_33 : decode b_Reader_closeList 33 = .ok (.istore_n 2, 1) := by decide +kernel
theorem d_Reader_closeList_34 : decode b_Reader_closeList 34 = .ok (.aload_n 0, 1) := by decide +kernel
theorem d_Reader_closeList_35 : decode b_Reader_closeList 35 = .ok (.getfield 30, 3) := by decide +kernel
theorem d_Reader_closeList_38 : decode b_Reader_closeList 38 = .ok (.aload_n 0, 1) := by decide +kernel
theorem d_Reader_closeList_39 : decode b_Reader_closeList 39 = .ok (.getfield 15, 3) := by decide +kernel
theorem d_Reader_closeList_42 : decode b_Reader_closeList 42 = .ok (.iload_n 2, 1) := by decide +kernel
theorem d_Reader_closeList_43 : decode b_Reader_closeList 43 = .ok (.aload_n 0, 1) := by decide +kernel
theorem d_Reader_closeList_44 : decode b_Reader_closeList 44 = .ok (.getfield 75, 3) := by decide +kernel
theorem d_Reader_closeList_47 : decode b_Reader_closeList 47 = .ok (.iload_n 2, 1) := by decide +kernel
theorem d_Reader_closeList_48 : decode b_Reader_closeList 48 = .ok (.isub, 1) := by decide +kernel
theorem d_Reader_closeList_49 : decode b_Reader_closeList 49 = .ok (.invokevirtual 123, 3) := by decide +kernel
theorem d_Reader_closeList_52 : decode b_Reader_closeList 52 = .ok (.istore_n 3, 1) := by decide +kernel
theorem d_Reader_closeList_53 : decode b_Reader_closeList 53 = .ok (.aload_n 0, 1) := by decide +kernel
theorem d_Reader_closeList_54 : decode b_Reader_closeList 54 = .ok (.iload_n 2, 1) := by decide +kernel
theorem d_Reader_closeList_55 : decode b_Reader_closeList 55 = .ok (.putfield 75, 3) := by decide +kernel
theorem d_Reader_closeList_58 : decode b_Reader_closeList 58 = .ok (.aload_n 0, 1) := by decide +kernel
theorem d_Reader_closeList_59 : decode b_Reader_closeList 59 = .ok (.getfield 81, 3) := by decide +kernel
theorem d_Reader_closeList_62 : decode b_Reader_closeList 62 = .ok (.sipush 600, 3) := by decide +kernel
theorem d_Reader_closeList_65 : decode b_Reader_closeList 65 = .ok (.if_icmp .gt 9, 3) := by decide +kernel
theorem d_Reader_closeList_68 : decode b_Reader_closeList 68 = .ok (.iload_n 3, 1) := by decide +kernel
theorem d_Reader_closeList_69 : decode b_Reader_closeList 69 = .ok (.ldc 127, 2) := by decide +kernel
theorem d_Reader_closeList_71 : decode b_Reader_closeList 71 = .ok (.if_icmp .ne 13, 3) := by decide +kernel
theorem d_Reader_closeList_74 : decode b_Reader_closeList 74 = .ok (.aload_n 0, 1) := by decide +kernel
theorem d_Reader_closeList_75 : decode b_Reader_closeList 75 = .ok (.bipush 6, 2) := by decide +kernel
theorem d_Reader_closeList_77 : decode b_Reader_closeList 77 = .ok (.iload_n 1, 1) := by decide +kernel
theorem d_Reader_closeList_78 : decode b_Reader_closeList 78 = .ok (.invokevirtual 54, 3) := by decide +kernel
theorem d_Reader_closeList_81 : decode b_Reader_closeList 81 = .ok (.goto 8, 3) := by decide +kernel
theorem d_Reader_closeList_84 : decode b_Reader_closeList 84 = .ok (.aload_n 0, 1) := by decide +kernel
theorem d_Reader_closeList_85 : decode b_Reader_closeList 85 = .ok (.iload_n 3, 1) := by decide +kernel
theorem d_Reader_closeList_86 : decode b_Reader_closeList 86 = .ok (.invokevirtual 128, 3) := by decide +kernel
theorem d_Reader_closeList_89 : decode b_Reader_closeList 89 = .ok (.return_, 1) := by decide +kernel
theorem d_Reader_readPlain_0 : decode b_Reader_readPlain 0 = .ok (.aload_n 0, 1) := by decide +kernel
theorem d_Reader_readPlain_1 : decode b_Reader_readPlain 1 = .ok (.getfield 11, 3) := by decide +kernel
theorem d_Reader_readPlain_4 : decode b_Reader_readPlain 4 = .ok (.iload_n 1, 1) := by decide +kernel
theorem d_Reader_readPlain_5 : decode b_Reader_readPlain 5 = .ok (.iload_n 2, 1) := by decide +kernel
theorem d_Reader_readPlain_6 : decode b_Reader_readPlain 6 = .ok (.invokestatic 131, 3) := by decide +kernel
theorem d_Reader_readPlain_9 : decode b_Reader_readPlain 9 = .ok (.istore_n 3, 1) := by decide +kernel
theorem d_Reader_readPlain_10 : decode b_Reader_readPlain 10 = .ok (.iload_n 3, 1) := by decide +kernel
theorem d_Reader_readPlain_11 : decode b_Reader_readPlain 11 = .ok (.ldc 134, 2) := by decide +kernel
theorem d_Reader_readPlain_13 : decode b_Reader_readPlain 13 = .ok (.if_icmp .ne 12, 3) := by decide +kernel
theorem d_Reader_readPlain_16 : decode b_Reader_readPlain 16 = .ok (.aload_n 0, 1) := by decide +kernel
theorem d_Reader_readPlain_17 : decode b_Reader_readPlain 17 = .ok (.iconst 2, 1) := by decide +kernel
theorem d_Reader_readPlain_18 : decode b_Reader_readPlain 18 = .ok (.iload_n 1, 1) := by decide +kernel
theorem d_Reader_readPlain_19 : decode b_Reader_readPlain 19 = .ok (.invokevirtual 54, 3) := by decide +kernel
theorem d_Reader_readPlain_22 : decode b_Reader_readPlain 22 = .ok (.goto 48, 3) := by decide +kernel
theorem d_Reader_readPlain_25 : decode b_Reader_readPlain 25 = .ok (.iload_n 3, 1) := by decide +kernel
theorem d_Reader_readPlain_26 : decode b_Reader_readPlain 26 = .ok (.ldc 127, 2) := by decide +kernel
theorem d_Reader_readPlain_28 : decode b_Reader_readPlain 28 = .ok (.if_icmp .ne 20, 3) := by decide +kernel
theorem d_Reader_readPlain_31 : decode b_Reader_readPlain 31 = .ok (.iload_n 2, 1) := by decide +kernel
theorem d_Reader_readPlain_32 : decode b_Reader_readPlain 32 = .ok (.iload_n 1, 1) := by decide +kernel
theorem d_Reader_readPlain_33 : decode b_Reader_readPlain 33 = .ok (.isub, 1) := by decide +kernel
theorem d_Reader_readPlain_34 : decode b_Reader_readPlain 34 = .ok (.bipush 30, 2) := by decide +kernel
theorem d_Reader_readPlain_36 : decode b_Reader_readPlain 36 = .ok (.if_icmp .le 12, 3) := by decide +kernel
theorem d_Reader_readPlain_39 : decode b_Reader_readPlain 39 = .ok (.aload_n 0, 1) := by decide +kernel
theorem d_Reader_readPlain_40 : decode b_Reader_readPlain 40 = .ok (.iconst 3, 1) := by decide +kernel
theorem d_Reader_readPlain_41 : decode b_Reader_readPlain 41 = .ok (.iload_n 1, 1) := by decide +kernel
theorem d_Reader_readPlain_42 : decode b_Reader_readPlain 42 = .ok (.invokevirtual 54, 3) := by decide +kernel
theorem d_Reader_readPlain_45 : decode b_Reader_readPlain 45 = .ok (.goto 25, 3) := by decide +kernel
theorem d_Reader_readPlain_48 : decode b_Reader_readPlain 48 = .ok (.iload_n 3, 1) := by decide +kernel
theorem d_Reader_readPlain_49 : decode b_Reader_readPlain 49 = .ok (.ldc 127, 2) := by decide +kernel
theorem d_Reader_readPlain_51 : decode b_Reader_readPlain 51 = .ok (.if_icmp .ne 19, 3) := by decide +kernel
theorem d_Reader_readPlain_54 : decode b_Reader_readPlain 54 = .ok (.aload_n 0, 1) := by decide +kernel
theorem d_Reader_readPlain_55 : decode b_Reader_readPlain 55 = .ok (.getfield 30, 3) := by decide +kernel
theorem d_Reader_readPlain_58 : decode b_Reader_readPlain 58 = .ok (.aload_n 0, 1) := by decide +kernel
theorem d_Reader_readPlain_59 : decode b_Reader_readPlain 59 = .ok (.getfield 11, 3) := by decide +kernel
theorem d_Reader_readPlain_62 : decode b_Reader_readPlain 62 = .ok (.iload_n 1, 1) := by decide +kernel
theorem d_Reader_readPlain_63 : decode b_Reader_readPlain 63 = .ok (.iload_n 2, 1) := by decide +kernel
theorem d_Reader_readPlain_64 : decode b_Reader_readPlain 64 = .ok (.iload_n 1, 1) := by decide +kernel
theorem d_Reader_readPlain_65 : decode b_Reader_readPlain 65 = .ok (.isub, 1) := by decide +kernel
theorem d_Reader_readPlain_66 : decode b_Reader_readPlain 66 = .ok (.invokevirtual 135, 3) := by decide +kernel
theorem d_Reader_readPlain_69 : decode b_Reader_readPlain 69 = .ok (.istore_n 3, 1) := by decide +kernel
theorem d_Reader_readPlain_70 : decode b_Reader_readPlain 70 = .ok (.aload_n 0, 1) := by decide +kernel
theorem d_Reader_readPlain_71 : decode b_Reader_readPlain 71 = .ok (.getfield 81, 3) := by decide +kernel
theorem d_Reader_readPlain_74 : decode b_Reader_readPlain 74 = .ok (.sipush 600, 3) := by decide +kernel
theorem d_Reader_readPlain_77 : decode b_Reader_readPlain 77 = .ok (.if_icmp .gt 9, 3) := by decide +kernel
theorem d_Reader_readPlain_80 : decode b_Reader_readPlain 80 = .ok (.iload_n 3, 1) := by decide +kernel
theorem d_Reader_readPlain_81 : decode b_Reader_readPlain 81 = .ok (.ldc 127, 2) := by decide +kernel
theorem d_Reader_readPlain_83 : decode b_Reader_readPlain 83 = .ok (.if_icmp .ne 10, 3) := by decide +kernel
theorem d_Reader_readPlain_86 : decode b_Reader_readPlain 86 = .ok (.aload_n 0, 1) := by decide +kernel
theorem d_Reader_readPlain_87 : decode b_Reader_readPlain 87 = .ok (.bipush 6, 2) := by decide +kernel
theorem d_Reader_readPlain_89 : decode b_Reader_readPlain 89 = .ok (.iload_n 1, 1) := by decide +kernel
theorem d_Reader_readPlain_90 : decode b_Reader_readPlain 90 = .ok (.invokevirtual 54, 3) := by decide +kernel
theorem d_Reader_readPlain_93 : decode b_Reader_readPlain 93 = .ok (.iload_n 3, 1) := by decide +kernel
theorem d_Reader_readPlain_94 : decode b_Reader_readPlain 94 = .ok (.ireturn, 1) := by decide +kernel
theorem lk_Reader_131 : Cond.methodLink "TurtleWorld$Reader" 131 ⟨"TurtleWorld$Heap", "numberIn", "([III)I"⟩ ∈ tw_T := tw_i4 86 (by decide +kernel) (by decide +kernel)
theorem lk_Reader_134 : Cond.constant "TurtleWorld$Reader" 134 (-2147483639) ∈ tw_T := tw_i4 99 (by decide +kernel) (by decide +kernel)
theorem lk_Reader_135 : Cond.methodLink "TurtleWorld$Reader" 135 ⟨"TurtleWorld$Heap", "newWord", "([III)I"⟩ ∈ tw_T := tw_i4 100 (by decide +kernel) (by decide +kernel)
theorem hd_Heap_newWord : y_Heap_newWord.cls ≠ "java/lang/invoke/MethodHandle" ∧ y_Heap_newWord.cls ≠ "java/lang/invoke/VarHandle" ∧ (parseMethodDescriptor y_Heap_newWord.desc).map (fun d => d.parameters.length) = some 3 := by decide +kernel
def m_Deeds_local (n : Nat) (g : Nat → Nat) (i : Nat → Int32) (a : Nat → Nat → Int32) (v1 : Int32) : Option ((Nat → Int32) × (Nat → Nat → Int32) × Int32) := ob0 (m_Line_callAt n g i a (0 : Int32)) (fun r_2 => if ((0 : Int32)) ≤ r_2 then ck r_2 150 (ob1 (a 46 r_2.toNatClampNeg : Int32) (fun x_5 => ob0 (m_Names_findLocal n g i a v1 x_5) (fun r_7 => if r_7 < ((0 : Int32)) then if (((i 13) - x_5)) < ((12 : Int32)) then ob (m_Names_addLocal n g i a v1 (-2147483648 : Int32)) (fun i_11 a_12 r_13 => some (i_11, a_12, (-2147483648))) else some (i, a, (-2147483640)) else some (i, a, (-2147483648))))) else some (i, a, (-2147483636)))
set_option maxHeartbeats 4000000 in
set_option maxRecDepth 100000 in
theorem x_Deeds_local (l : Launch) (dC : Nat → ClassId) (dI : Nat → Nat → Nat) (cI : ClassId) (adK adV adA u o g : Nat → Nat) (sz : Nat) (n : Nat) {i : Nat → Int32} {a : Nat → Nat → Int32} {v1 : Int32} {i2 : Nat → Int32} {a2 : Nat → Nat → Int32} {r2 : Int32} (hm : m_Deeds_local n g i a v1 = some (i2, a2, r2)) : Met l y_Deeds_local w_Deeds_local ({ frames := 2, cells := 0, slots := 0, locals := 49 } : Room) (va_Pc [.ref ((u 10)), .int v1] (xE dC dI cI adK adV adA u o g i a sz)) (va_Qi (xR r2) (xB dC dI cI u o g i2 a2 (va_A (TW cI u o i a g) sz)) (va_A (TW cI u o i a g) sz)) 0 0 ((va_A (TW cI u o i a g) sz)) := by
  refine Met.ofW (cc := b_Deeds_local) (maxL := 4) (ret := (some .int)) (by decide) rfl ?_
  intro p e s m args below meth c s₁ B hml hv
  obtain ⟨rfl, hsz, hP, hK, hE, hD0⟩ := hv
  have hx := B.exec
  have hb := B.bytes
  have hr := B.returns
  have hts := atoms_spec (ws := w_Deeds_local) B.pre
  have htt : ∀ w ∈ tw_T, w.before _ s = true := fun w h => hts w (List.mem_cons_of_mem _ h)
  have hown : s.vm.findClass R_Deeds = some m.cls := findClass_of_methodNamed B.named
  have hlocks := B.notSynchronized
  subst hsz
  have hD := hD0.self (sz := s.heap.size)
  generalize hAe : (va_A (TW cI u o i a g) s.heap.size) = A at hD hE ⊢
  have hA : ∀ q : Nat, s.heap.size ≤ q → A q := fun q h => by rw [← hAe]; exact Or.inr h
  have hS : va_S A s.heap s.heap [] := va_S.rf
  have hl := lv_entry ([.ref ((u 10)), .int v1]) (n := 4) (Nat.le_of_ble_eq_true rfl)
  rw [lg_entry_eq]
  generalize (lg_sl ([.ref ((u 10)), .int v1]) ++ List.replicate (4 - (lg_sl ([.ref ((u 10)), .int v1])).length) Slot.unset).toArray = ls at hl ⊢
  have hl : lv_has ls 4 [(0, .ref ((u 10))), (1, .int v1)] := hl
  rw [m_Deeds_local] at hm
  refine lv_aload_n hx hb d_Deeds_local_0 rfl (lv_at hl 0 rfl) ?_
  refine va_get (D := (dC, dI)) (ci := 10) (v := .ref ((u 8))) (C := R_Deeds) (T := F_Deeds) (N := 8) hx hb htt iw_Deeds hown hK hP 10 xo_10 rfl 1 (Nat.le_of_ble_eq_true rfl) (htt _ lk_Deeds_18) (fun _ h9 => h9) xg_10_1 d_Deeds_local_1 ?_
  refine lv_iconst (v := 0) hx hb d_Deeds_local_4 (by decide) ?_
  obtain ⟨r_2, h_1, hm⟩ := ob0_some hm
  have hFc := x_free0 hS hA
  refine va_calli (va_runV (As := [.int 0]) (rest := []) ⟨hx, hb, hml, hown, hts⟩ (x_Line_callAt l dC dI cI adK adV adA u o g s.heap.size n h_1) (cwV 1 hts (tw_GV tw_cons cw_Line_callAt lk_Deeds_262 in_Line_callAt sel_Line_callAt ini_Line) rfl rfl rfl ⟨rfl, hd_Line_callAt⟩ ⟨Nat.le_of_ble_eq_true rfl, Nat.le_of_ble_eq_true rfl⟩) (xpVr hK hP hS hE hFc xo_8 rfl) rfl rfl hl.1 rfl (lv_room (Nat.le_of_ble_eq_true rfl)) d_Deeds_local_5 ⟨Nat.le_of_ble_eq_true rfl, Nat.le_of_ble_eq_true rfl⟩) hS (fun q _ h => hFc q h) hFc (fun r9 u9 t9 H locs ht hvm e9 hB hz1 hk1 hS => ?_)
  have e9 : r_2 = r9 := e9
  subst e9
  replace hP := x_keep hP hk1
  clear hFc hk1 hz1 hvm hB ht
  refine lv_istore_n (lv' := [(2, .int r_2), (0, .ref ((u 10))), (1, .int v1)]) hx hb d_Deeds_local_8 rfl hl (by decide) rfl (fun ls hl => ?_)
  refine lv_iload_n hx hb d_Deeds_local_9 rfl (lv_at hl 0 rfl) ?_
  refine lv_if_ge (tgt := 17) hx hb d_Deeds_local_10 (by decide) (fun c_3 => ?_) (fun c_3 => ?_)
  · replace hm := if_t c_3 hm
    refine lv_aload_n hx hb d_Deeds_local_17 rfl (lv_at hl 1 rfl) ?_
    refine va_get (D := (dC, dI)) (ci := 10) (v := .ref ((u 8))) (C := R_Deeds) (T := F_Deeds) (N := 8) hx hb htt iw_Deeds hown hK hP 10 xo_10 rfl 1 (Nat.le_of_ble_eq_true rfl) (htt _ lk_Deeds_18) (fun _ h9 => h9) xg_10_1 d_Deeds_local_18 ?_
    refine va_get (D := (dC, dI)) (ci := 8) (v := .ref ((u 56))) (C := R_Line) (T := F_Line) (N := 18) hx hb htt iw_Line hown hK hP 8 xo_8 rfl 17 (Nat.le_of_ble_eq_true rfl) (htt _ lk_Deeds_266) (fun _ h9 => h9) xg_8_17 d_Deeds_local_21 ?_
    refine lv_iload_n hx hb d_Deeds_local_24 rfl (lv_at hl 0 rfl) ?_
    obtain ⟨h_4, hm⟩ := ck_some hm
    refine va_iald hx hb hK hP 58 0 twA_46 rfl h_4 d_Deeds_local_25 ?_
    refine lv_topi (fun x_5 ex_5 => ?_)
    replace hm := ob1_at ex_5 hm
    refine lv_istore_n (lv' := [(3, .int x_5), (2, .int r_2), (0, .ref ((u 10))), (1, .int v1)]) hx hb d_Deeds_local_26 rfl hl (by decide) rfl (fun ls hl => ?_)
    refine lv_aload_n hx hb d_Deeds_local_27 rfl (lv_at hl 2 rfl) ?_
    refine va_get (D := (dC, dI)) (ci := 10) (v := .ref ((u 3))) (C := R_Deeds) (T := F_Deeds) (N := 8) hx hb htt iw_Deeds hown hK hP 10 xo_10 rfl 3 (Nat.le_of_ble_eq_true rfl) (htt _ lk_Deeds_26) (fun _ h9 => h9) xg_10_3 d_Deeds_local_28 ?_
    refine lv_iload_n hx hb d_Deeds_local_31 rfl (lv_at hl 3 rfl) ?_
    refine lv_iload_n hx hb d_Deeds_local_32 rfl (lv_at hl 0 rfl) ?_
    obtain ⟨r_7, h_6, hm⟩ := ob0_some hm
    have hFc := x_free0 hS hA
    refine va_calli (va_runV (As := [.int v1, .int x_5]) (rest := []) ⟨hx, hb, hml, hown, hts⟩ (x_Names_findLocal l dC dI cI adK adV adA u o g H.size n h_6) (cwV 2 hts (tw_GV tw_cons cw_Names_findLocal lk_Deeds_269 in_Names_findLocal sel_Names_findLocal ini_Names) rfl rfl rfl ⟨rfl, hd_Names_findLocal⟩ ⟨Nat.le_of_ble_eq_true rfl, Nat.le_of_ble_eq_true rfl⟩) (xpVr hK hP hS hE hFc xo_3 rfl) rfl rfl hl.1 rfl (lv_room (Nat.le_of_ble_eq_true rfl)) d_Deeds_local_33 ⟨Nat.le_of_ble_eq_true rfl, Nat.le_of_ble_eq_true rfl⟩) hS (fun q _ h => hFc q h) hFc (fun r9 u9 t9 H locs ht hvm e9 hB hz1 hk1 hS => ?_)
    have e9 : r_7 = r9 := e9
    subst e9
    replace hP := x_keep hP hk1
    clear hFc hk1 hz1 hvm hB ht
    refine lv_if_lt (tgt := 42) hx hb d_Deeds_local_36 (by decide) (fun c_8 => ?_) (fun c_8 => ?_)
    · replace hm := if_t c_8 hm
      refine lv_aload_n hx hb d_Deeds_local_42 rfl (lv_at hl 2 rfl) ?_
      refine va_get (D := (dC, dI)) (ci := 10) (v := .ref ((u 3))) (C := R_Deeds) (T := F_Deeds) (N := 8) hx hb htt iw_Deeds hown hK hP 10 xo_10 rfl 3 (Nat.le_of_ble_eq_true rfl) (htt _ lk_Deeds_26) (fun _ h9 => h9) xg_10_3 d_Deeds_local_43 ?_
      refine va_get (D := (dC, dI)) (ci := 3) (v := .int (i 13)) (C := R_Names) (T := F_Names) (N := 9) hx hb htt iw_Names hown hK hP 3 xo_3 rfl 6 (Nat.le_of_ble_eq_true rfl) (htt _ lk_Deeds_272) (fun _ h9 => h9) xg_3_6 d_Deeds_local_46 ?_
      refine lv_iload_n hx hb d_Deeds_local_49 rfl (lv_at hl 0 rfl) ?_
      refine lv_isub hx hb d_Deeds_local_50 ?_
      refine lv_bipush (v := 12) hx hb d_Deeds_local_51 (by decide) ?_
      refine lv_icmp_lt (tgt := 59) hx hb d_Deeds_local_53 (by decide) (fun c_9 => ?_) (fun c_9 => ?_)
      · replace hm := if_t c_9 hm
        refine lv_aload_n hx hb d_Deeds_local_59 rfl (lv_at hl 2 rfl) ?_
        refine va_get (D := (dC, dI)) (ci := 10) (v := .ref ((u 3))) (C := R_Deeds) (T := F_Deeds) (N := 8) hx hb htt iw_Deeds hown hK hP 10 xo_10 rfl 3 (Nat.le_of_ble_eq_true rfl) (htt _ lk_Deeds_26) (fun _ h9 => h9) xg_10_3 d_Deeds_local_60 ?_
        refine lv_iload_n hx hb d_Deeds_local_63 rfl (lv_at hl 3 rfl) ?_
        refine lv_ldc (v := (-2147483648)) hx hb hown (htt _ lk_Deeds_206) d_Deeds_local_64 ?_
        obtain ⟨i_11, a_12, r_13, h_10, hm⟩ := ob_some hm
        have hFc := x_free hD hS hA
        refine va_callv (va_runV (As := [.int v1, .int ((-2147483648))]) (rest := []) ⟨hx, hb, hml, hown, hts⟩ (x_Names_addLocal l dC dI cI adK adV adA u o g H.size n h_10) (cwV 2 hts (tw_GV tw_cons cw_Names_addLocal lk_Deeds_274 in_Names_addLocal sel_Names_addLocal ini_Names) rfl rfl rfl ⟨rfl, hd_Names_addLocal⟩ ⟨Nat.le_of_ble_eq_true rfl, Nat.le_of_ble_eq_true rfl⟩) (xpV hK hP hD hS hE hFc xo_3 rfl) rfl rfl hl.1 rfl (lv_room (Nat.le_of_ble_eq_true rfl)) d_Deeds_local_66 ⟨Nat.le_of_ble_eq_true rfl, Nat.le_of_ble_eq_true rfl⟩) hS (fun q _ h => hFc q h) hFc (fun u9 t9 H locs ht hvm e9 hB hz1 hk1 hS => ?_)
        obtain ⟨hP, hD⟩ := x_aft hB ht hFc
        clear hFc hk1 hz1 hvm hB ht
        refine lv_ldc (v := (-2147483648)) hx hb hown (htt _ lk_Deeds_206) d_Deeds_local_69 ?_
        obtain ⟨e1i, e1a, e3⟩ := re3 hm
        obtain ⟨hP, hD⟩ := x_eq e1i e1a hP hD
        exact W.iret hx hb hr (fun t9 ht hW => ⟨⟨_, (), rfl, e3.symm, by rw [ht]; exact hP, hD⟩, hS.F ht⟩) hS.2.2 d_Deeds_local_71
      · replace hm := if_f c_9 hm
        refine lv_ldc (v := (-2147483640)) hx hb hown (htt _ lk_Deeds_202) d_Deeds_local_56 ?_
        obtain ⟨e1i, e1a, e3⟩ := re3 hm
        obtain ⟨hP, hD⟩ := x_eq e1i e1a hP hD
        exact W.iret hx hb hr (fun t9 ht hW => ⟨⟨_, (), rfl, e3.symm, by rw [ht]; exact hP, hD⟩, hS.F ht⟩) hS.2.2 d_Deeds_local_58
    · replace hm := if_f c_8 hm
      refine lv_ldc (v := (-2147483648)) hx hb hown (htt _ lk_Deeds_206) d_Deeds_local_39 ?_
      obtain ⟨e1i, e1a, e3⟩ := re3 hm
      obtain ⟨hP, hD⟩ := x_eq e1i e1a hP hD
      exact W.iret hx hb hr (fun t9 ht hW => ⟨⟨_, (), rfl, e3.symm, by rw [ht]; exact hP, hD⟩, hS.F ht⟩) hS.2.2 d_Deeds_local_41
  · replace hm := if_f c_3 hm
    refine lv_ldcw (v := (-2147483636)) hx hb hown (htt _ lk_Deeds_265) d_Deeds_local_13 ?_
    obtain ⟨e1i, e1a, e3⟩ := re3 hm
    obtain ⟨hP, hD⟩ := x_eq e1i e1a hP hD
    exact W.iret hx hb hr (fun t9 ht hW => ⟨⟨_, (), rfl, e3.symm, by rw [ht]; exact hP, hD⟩, hS.F ht⟩) hS.2.2 d_Deeds_local_16

def m_Deeds_canBeInputs_b47 (n : Nat) (g : Nat → Nat) (i : Nat → Int32) (a : Nat → Nat → Int32) (rc_18 : Int32 → Int32 → Int32 → Option (Int32)) : Nat → Int32 → Int32 → Int32 → Int32 → Int32 → Option (Int32)
  | 0, _, _, _, _, _ => none
  | f + 1, v1, v2, v3, v4, v5 => if v3 ≤ v5 then ob1 (v3 + 1 : Int32) (fun x_2 => rc_18 v1 v2 x_2) else ob0 (m_Heap_member n g i a v1 v5) (fun r_4 => ob0 (m_Heap_sameWord n g i a v4 r_4) (fun r_6 => if r_6 = ((0 : Int32)) then ob1 (v5 + 1 : Int32) (fun x_8 => m_Deeds_canBeInputs_b47 n g i a rc_18 f v1 v2 v3 v4 x_8) else some 0))
set_option maxHeartbeats 4000000 in
set_option maxRecDepth 100000 in
theorem lb_Deeds_canBeInputs_47 (l : Launch) (dC : Nat → ClassId) (dI : Nat → Nat → Nat) (cI : ClassId) (adK adV adA u o g : Nat → Nat) (n : Nat) {p : Program} {e : Env} {s : State} {m : MethodId} {args : Array Value} {below : List Frame} {meth : Method} {c : Code} {A : Nat → Prop} (hx : p.tables.exec = Jvm.exec) (hb : c.code = b_Deeds_canBeInputs) (hml : c.maxLocals = 6) (hown : s.vm.findClass R_Deeds = some m.cls) (hts : ∀ w ∈ w_Deeds_canBeInputs, w.before args s = true) (hK : va_K (dC, dI) classes [(cI, .int)] s) (hE : tw_E adK adV adA A s s.heap) (hA : ∀ q : Nat, s.heap.size ≤ q → A q) (hr : meth.sig.returnType = (some .boolean)) (hlocks : meth.locks = false) {i : Nat → Int32} {a : Nat → Nat → Int32} {r2 : Int32} (rc_18 : Int32 → Int32 → Int32 → Option (Int32)) (Hrc_18 : ∀ (v1 : Int32) (v2 : Int32) (v3 : Int32), rc_18 v1 v2 v3 = some r2 → ∀ (H : Heap) (locs : List Loc) (ls : Array Slot), va_P (dC, dI) classes (TW cI u o i a g) H → va_S A s.heap H locs → lv_has ls 6 [(0, .ref ((u 10))), (1, .int v1), (2, .int v2), (3, .int v3)] → W p l e ({ frames := 2, cells := 0, slots := 0, locals := 45 } : Room) s m args below meth c H locs 0 0 (MQ below (va_Qi (xR r2) xT A) args s 0 0 A) (F0 m 18 ls [])) : ∀ (f : Nat) (v1 : Int32) (v2 : Int32) (v3 : Int32) (v4 : Int32) (v5 : Int32), m_Deeds_canBeInputs_b47 n g i a rc_18 f v1 v2 v3 v4 v5 = some r2 → ∀ (H : Heap) (locs : List Loc) (ls : Array Slot), va_P (dC, dI) classes (TW cI u o i a g) H → va_S A s.heap H locs → lv_has ls 6 [(0, .ref ((u 10))), (1, .int v1), (2, .int v2), (3, .int v3), (4, .int v4), (5, .int v5)] → W p l e ({ frames := 2, cells := 0, slots := 0, locals := 45 } : Room) s m args below meth c H locs 0 0 (MQ below (va_Qi (xR r2) xT A) args s 0 0 A) (F0 m 47 ls []) := by
  have htt : ∀ w ∈ tw_T, w.before _ s = true := fun w h => hts w (List.mem_cons_of_mem _ h)
  intro f
  induction f with
  | zero =>
    intro v1 v2 v3 v4 v5 hm
    rw [m_Deeds_canBeInputs_b47] at hm
    cases hm
  | succ f ih =>
    intro v1 v2 v3 v4 v5 hm H locs ls hP hS hl
    rw [m_Deeds_canBeInputs_b47] at hm
    refine lv_iload hx hb d_Deeds_canBeInputs_47 (lv_at hl 5 rfl) ?_
    refine lv_iload_n hx hb d_Deeds_canBeInputs_49 rfl (lv_at hl 3 rfl) ?_
    refine lv_icmp_ge (tgt := 83) hx hb d_Deeds_canBeInputs_50 (by decide) (fun c_1 => ?_) (fun c_1 => ?_)
    · replace hm := if_t c_1 hm
      obtain ⟨x_2, ex_2⟩ : ∃ y9 : Int32, y9 = v3 + 1 := ⟨_, rfl⟩
      replace hm := ob1_at ex_2 hm
      refine lv_iinc (v := x_2) (lv' := [(3, .int x_2), (0, .ref ((u 10))), (1, .int v1), (2, .int v2), (4, .int v4), (5, .int v5)]) hx hb d_Deeds_canBeInputs_83 hl (k := 3) rfl (by rw [ex_2]; rfl) (by decide) rfl (fun ls hl => ?_)
      refine lv_goto (tgt := 18) hx hb d_Deeds_canBeInputs_86 (by decide) ?_
      exact Hrc_18 _ _ _ hm _ _ _ hP hS (lv_sub hl [1, 2, 3, 0] rfl)
    · replace hm := if_f c_1 hm
      refine lv_aload_n hx hb d_Deeds_canBeInputs_53 rfl (lv_at hl 0 rfl) ?_
      refine va_get (D := (dC, dI)) (ci := 10) (v := .ref ((u 1))) (C := R_Deeds) (T := F_Deeds) (N := 8) hx hb htt iw_Deeds hown hK hP 10 xo_10 rfl 0 (Nat.le_of_ble_eq_true rfl) (htt _ lk_Deeds_15) (fun _ h9 => h9) xg_10_0 d_Deeds_canBeInputs_54 ?_
      refine lv_iload hx hb d_Deeds_canBeInputs_57 (lv_at hl 4 rfl) ?_
      refine lv_aload_n hx hb d_Deeds_canBeInputs_59 rfl (lv_at hl 0 rfl) ?_
      refine va_get (D := (dC, dI)) (ci := 10) (v := .ref ((u 1))) (C := R_Deeds) (T := F_Deeds) (N := 8) hx hb htt iw_Deeds hown hK hP 10 xo_10 rfl 0 (Nat.le_of_ble_eq_true rfl) (htt _ lk_Deeds_15) (fun _ h9 => h9) xg_10_0 d_Deeds_canBeInputs_60 ?_
      refine lv_iload_n hx hb d_Deeds_canBeInputs_63 rfl (lv_at hl 1 rfl) ?_
      refine lv_iload hx hb d_Deeds_canBeInputs_64 (lv_at hl 5 rfl) ?_
      obtain ⟨r_4, h_3, hm⟩ := ob0_some hm
      have hFc := x_free0 hS hA
      refine va_calli (va_runV (As := [.int v1, .int v5]) (rest := [.int v4, .ref ((u 1))]) ⟨hx, hb, hml, hown, hts⟩ (x_Heap_member l dC dI cI adK adV adA u o g H.size n h_3) (cwV 2 hts (tw_GV tw_cons cw_Heap_member lk_Deeds_196 in_Heap_member sel_Heap_member ini_Heap) rfl rfl rfl ⟨rfl, hd_Heap_member⟩ ⟨Nat.le_of_ble_eq_true rfl, Nat.le_of_ble_eq_true rfl⟩) (xpVr hK hP hS hE hFc xo_1 rfl) rfl rfl hl.1 rfl (lv_room (Nat.le_of_ble_eq_true rfl)) d_Deeds_canBeInputs_66 ⟨Nat.le_of_ble_eq_true rfl, Nat.le_of_ble_eq_true rfl⟩) hS (fun q _ h => hFc q h) hFc (fun r9 u9 t9 H locs ht hvm e9 hB hz1 hk1 hS => ?_)
      have e9 : r_4 = r9 := e9
      subst e9
      replace hP := x_keep hP hk1
      clear hFc hk1 hz1 hvm hB ht
      obtain ⟨r_6, h_5, hm⟩ := ob0_some hm
      have hFc := x_free0 hS hA
      refine va_calli (va_runV (As := [.int v4, .int r_4]) (rest := []) ⟨hx, hb, hml, hown, hts⟩ (x_Heap_sameWord l dC dI cI adK adV adA u o g H.size n h_5) (cwV 2 hts (tw_GV tw_cons cw_Heap_sameWord lk_Deeds_84 in_Heap_sameWord sel_Heap_sameWord ini_Heap) rfl rfl rfl ⟨rfl, hd_Heap_sameWord⟩ ⟨Nat.le_of_ble_eq_true rfl, Nat.le_of_ble_eq_true rfl⟩) (xpVr hK hP hS hE hFc xo_1 rfl) rfl rfl hl.1 rfl (lv_room (Nat.le_of_ble_eq_true rfl)) d_Deeds_canBeInputs_69 ⟨Nat.le_of_ble_eq_true rfl, Nat.le_of_ble_eq_true rfl⟩) hS (fun q _ h => hFc q h) hFc (fun r9 u9 t9 H locs ht hvm e9 hB hz1 hk1 hS => ?_)
      have e9 : r_6 = r9 := e9
      subst e9
      replace hP := x_keep hP hk1
      clear hFc hk1 hz1 hvm hB ht
      refine lv_if_eq (tgt := 77) hx hb d_Deeds_canBeInputs_72 (by decide) (fun c_7 => ?_) (fun c_7 => ?_)
      · replace hm := if_t c_7 hm
        obtain ⟨x_8, ex_8⟩ : ∃ y9 : Int32, y9 = v5 + 1 := ⟨_, rfl⟩
        replace hm := ob1_at ex_8 hm
        refine lv_iinc (v := x_8) (lv' := [(5, .int x_8), (0, .ref ((u 10))), (1, .int v1), (2, .int v2), (3, .int v3), (4, .int v4)]) hx hb d_Deeds_canBeInputs_77 hl (k := 5) rfl (by rw [ex_8]; rfl) (by decide) rfl (fun ls hl => ?_)
        refine lv_goto (tgt := 47) hx hb d_Deeds_canBeInputs_80 (by decide) ?_
        exact ih _ _ _ _ _ hm _ _ _ hP hS (lv_sub hl [1, 2, 3, 4, 5, 0] rfl)
      · replace hm := if_f c_7 hm
        refine lv_iconst (v := 0) hx hb d_Deeds_canBeInputs_75 (by decide) ?_
        have e3 := re1 hm
        exact W.zret hx hb hr (by decide) (fun t9 ht hW => ⟨⟨_, (), rfl, e3.symm, trivial⟩, hS.F ht⟩) hS.2.2 d_Deeds_canBeInputs_76
def m_Deeds_canBeInputs_b18 (n : Nat) (g : Nat → Nat) (i : Nat → Int32) (a : Nat → Nat → Int32) : Nat → Int32 → Int32 → Int32 → Option (Int32)
  | 0, _, _, _ => none
  | f + 1, v1, v2, v3 => if v2 ≤ v3 then some 1 else ob0 (m_Heap_member n g i a v1 v3) (fun r_3 => ob0 (m_Heap_isWord n r_3) (fun r_5 => if r_5 = ((0 : Int32)) then some 0 else m_Deeds_canBeInputs_b47 n g i a (m_Deeds_canBeInputs_b18 n g i a f) n v1 v2 v3 r_3 (0 : Int32)))
set_option maxHeartbeats 4000000 in
set_option maxRecDepth 100000 in
theorem lb_Deeds_canBeInputs_18 (l : Launch) (dC : Nat → ClassId) (dI : Nat → Nat → Nat) (cI : ClassId) (adK adV adA u o g : Nat → Nat) (n : Nat) {p : Program} {e : Env} {s : State} {m : MethodId} {args : Array Value} {below : List Frame} {meth : Method} {c : Code} {A : Nat → Prop} (hx : p.tables.exec = Jvm.exec) (hb : c.code = b_Deeds_canBeInputs) (hml : c.maxLocals = 6) (hown : s.vm.findClass R_Deeds = some m.cls) (hts : ∀ w ∈ w_Deeds_canBeInputs, w.before args s = true) (hK : va_K (dC, dI) classes [(cI, .int)] s) (hE : tw_E adK adV adA A s s.heap) (hA : ∀ q : Nat, s.heap.size ≤ q → A q) (hr : meth.sig.returnType = (some .boolean)) (hlocks : meth.locks = false) {i : Nat → Int32} {a : Nat → Nat → Int32} {r2 : Int32} : ∀ (f : Nat) (v1 : Int32) (v2 : Int32) (v3 : Int32), m_Deeds_canBeInputs_b18 n g i a f v1 v2 v3 = some r2 → ∀ (H : Heap) (locs : List Loc) (ls : Array Slot), va_P (dC, dI) classes (TW cI u o i a g) H → va_S A s.heap H locs → lv_has ls 6 [(0, .ref ((u 10))), (1, .int v1), (2, .int v2), (3, .int v3)] → W p l e ({ frames := 2, cells := 0, slots := 0, locals := 45 } : Room) s m args below meth c H locs 0 0 (MQ below (va_Qi (xR r2) xT A) args s 0 0 A) (F0 m 18 ls []) := by
  have htt : ∀ w ∈ tw_T, w.before _ s = true := fun w h => hts w (List.mem_cons_of_mem _ h)
  intro f
  induction f with
  | zero =>
    intro v1 v2 v3 hm
    rw [m_Deeds_canBeInputs_b18] at hm
    cases hm
  | succ f ih =>
    intro v1 v2 v3 hm H locs ls hP hS hl
    rw [m_Deeds_canBeInputs_b18] at hm
    refine lv_iload_n hx hb d_Deeds_canBeInputs_18 rfl (lv_at hl 3 rfl) ?_
    refine lv_iload_n hx hb d_Deeds_canBeInputs_19 rfl (lv_at hl 2 rfl) ?_
    refine lv_icmp_ge (tgt := 89) hx hb d_Deeds_canBeInputs_20 (by decide) (fun c_1 => ?_) (fun c_1 => ?_)
    · replace hm := if_t c_1 hm
      refine lv_iconst (v := 1) hx hb d_Deeds_canBeInputs_89 (by decide) ?_
      have e3 := re1 hm
      exact W.zret hx hb hr (by decide) (fun t9 ht hW => ⟨⟨_, (), rfl, e3.symm, trivial⟩, hS.F ht⟩) hS.2.2 d_Deeds_canBeInputs_90
    · replace hm := if_f c_1 hm
      refine lv_aload_n hx hb d_Deeds_canBeInputs_23 rfl (lv_at hl 0 rfl) ?_
      refine va_get (D := (dC, dI)) (ci := 10) (v := .ref ((u 1))) (C := R_Deeds) (T := F_Deeds) (N := 8) hx hb htt iw_Deeds hown hK hP 10 xo_10 rfl 0 (Nat.le_of_ble_eq_true rfl) (htt _ lk_Deeds_15) (fun _ h9 => h9) xg_10_0 d_Deeds_canBeInputs_24 ?_
      refine lv_iload_n hx hb d_Deeds_canBeInputs_27 rfl (lv_at hl 1 rfl) ?_
      refine lv_iload_n hx hb d_Deeds_canBeInputs_28 rfl (lv_at hl 3 rfl) ?_
      obtain ⟨r_3, h_2, hm⟩ := ob0_some hm
      have hFc := x_free0 hS hA
      refine va_calli (va_runV (As := [.int v1, .int v3]) (rest := []) ⟨hx, hb, hml, hown, hts⟩ (x_Heap_member l dC dI cI adK adV adA u o g H.size n h_2) (cwV 2 hts (tw_GV tw_cons cw_Heap_member lk_Deeds_196 in_Heap_member sel_Heap_member ini_Heap) rfl rfl rfl ⟨rfl, hd_Heap_member⟩ ⟨Nat.le_of_ble_eq_true rfl, Nat.le_of_ble_eq_true rfl⟩) (xpVr hK hP hS hE hFc xo_1 rfl) rfl rfl hl.1 rfl (lv_room (Nat.le_of_ble_eq_true rfl)) d_Deeds_canBeInputs_29 ⟨Nat.le_of_ble_eq_true rfl, Nat.le_of_ble_eq_true rfl⟩) hS (fun q _ h => hFc q h) hFc (fun r9 u9 t9 H locs ht hvm e9 hB hz1 hk1 hS => ?_)
      have e9 : r_3 = r9 := e9
      subst e9
      replace hP := x_keep hP hk1
      clear hFc hk1 hz1 hvm hB ht
      refine lv_istore (lv' := [(4, .int r_3), (0, .ref ((u 10))), (1, .int v1), (2, .int v2), (3, .int v3)]) hx hb d_Deeds_canBeInputs_32 hl (by decide) rfl (fun ls hl => ?_)
      refine lv_iload hx hb d_Deeds_canBeInputs_34 (lv_at hl 0 rfl) ?_
      obtain ⟨r_5, h_4, hm⟩ := ob0_some hm
      have hFc := x_free0 hS hA
      refine va_calli (va_runS (As := [.int r_3]) (rest := []) ⟨hx, hb, hml, hown, hts⟩ (x_Heap_isWord l H.size n h_4) (va_cwS 1 hts (tw_GS tw_cons cw_Heap_isWord lk_Deeds_78 st_Heap_isWord ini_Heap) rfl rfl rfl hd_Heap_isWord ⟨Nat.le_of_ble_eq_true rfl, Nat.le_of_ble_eq_true rfl⟩) xpS0 rfl rfl hl.1 rfl (lv_room (Nat.le_of_ble_eq_true rfl)) d_Deeds_canBeInputs_36 ⟨Nat.le_of_ble_eq_true rfl, Nat.le_of_ble_eq_true rfl⟩) hS (fun q _ h => hFc q h) hFc (fun r9 u9 t9 H locs ht hvm e9 hB hz1 hk1 hS => ?_)
      have e9 : r_5 = r9 := e9
      subst e9
      replace hP := x_keep hP hk1
      clear hFc hk1 hz1 hvm hB ht
      refine lv_if_ne (tgt := 44) hx hb d_Deeds_canBeInputs_39 (by decide) (fun c_6 => ?_) (fun c_6 => ?_)
      · replace hm := if_f c_6 hm
        refine lv_iconst (v := 0) hx hb d_Deeds_canBeInputs_44 (by decide) ?_
        refine lv_istore (lv' := [(5, .int 0), (4, .int r_3), (0, .ref ((u 10))), (1, .int v1), (2, .int v2), (3, .int v3)]) hx hb d_Deeds_canBeInputs_45 hl (by decide) rfl (fun ls hl => ?_)
        exact lb_Deeds_canBeInputs_47 l dC dI cI adK adV adA u o g n hx hb hml hown hts hK hE hA hr hlocks (m_Deeds_canBeInputs_b18 n g i a f) ih n _ _ _ _ _ hm _ _ _ hP hS (lv_sub hl [2, 3, 4, 5, 1, 0] rfl)
      · replace hm := if_t c_6 hm
        refine lv_iconst (v := 0) hx hb d_Deeds_canBeInputs_42 (by decide) ?_
        have e3 := re1 hm
        exact W.zret hx hb hr (by decide) (fun t9 ht hW => ⟨⟨_, (), rfl, e3.symm, trivial⟩, hS.F ht⟩) hS.2.2 d_Deeds_canBeInputs_43
def m_Deeds_canBeInputs (n : Nat) (g : Nat → Nat) (i : Nat → Int32) (a : Nat → Nat → Int32) (v1 : Int32) : Option (Int32) := ob0 (m_Heap_count n g i a v1) (fun r_2 => if r_2 ≤ ((5 : Int32)) then m_Deeds_canBeInputs_b18 n g i a n v1 r_2 (0 : Int32) else some 0)
set_option maxHeartbeats 4000000 in
set_option maxRecDepth 100000 in
theorem x_Deeds_canBeInputs (l : Launch) (dC : Nat → ClassId) (dI : Nat → Nat → Nat) (cI : ClassId) (adK adV adA u o g : Nat → Nat) (sz : Nat) (n : Nat) {i : Nat → Int32} {a : Nat → Nat → Int32} {v1 : Int32} {r2 : Int32} (hm : m_Deeds_canBeInputs n g i a v1 = some r2) : Met l y_Deeds_canBeInputs w_Deeds_canBeInputs ({ frames := 2, cells := 0, slots := 0, locals := 45 } : Room) (va_Pc [.ref ((u 10)), .int v1] (xEr dC dI cI adK adV adA u o g i a sz)) (va_Qi (xR r2) xT (xN sz)) 0 0 (xN sz) := by
  refine Met.ofW (cc := b_Deeds_canBeInputs) (maxL := 6) (ret := (some .boolean)) (by decide) rfl ?_
  intro p e s m args below meth c s₁ B hml hv
  obtain ⟨rfl, hsz, hP, hK, hE⟩ := hv
  have hx := B.exec
  have hb := B.bytes
  have hr := B.returns
  have hts := atoms_spec (ws := w_Deeds_canBeInputs) B.pre
  have htt : ∀ w ∈ tw_T, w.before _ s = true := fun w h => hts w (List.mem_cons_of_mem _ h)
  have hown : s.vm.findClass R_Deeds = some m.cls := findClass_of_methodNamed B.named
  have hlocks := B.notSynchronized
  subst hsz
  generalize hAe : xN s.heap.size = A at hE ⊢
  have hA : ∀ q : Nat, s.heap.size ≤ q → A q := fun q h => by rw [← hAe]; exact Or.inr h
  have hS : va_S A s.heap s.heap [] := va_S.rf
  have hl := lv_entry ([.ref ((u 10)), .int v1]) (n := 6) (Nat.le_of_ble_eq_true rfl)
  rw [lg_entry_eq]
  generalize (lg_sl ([.ref ((u 10)), .int v1]) ++ List.replicate (6 - (lg_sl ([.ref ((u 10)), .int v1])).length) Slot.unset).toArray = ls at hl ⊢
  have hl : lv_has ls 6 [(0, .ref ((u 10))), (1, .int v1)] := hl
  rw [m_Deeds_canBeInputs] at hm
  refine lv_aload_n hx hb d_Deeds_canBeInputs_0 rfl (lv_at hl 0 rfl) ?_
  refine va_get (D := (dC, dI)) (ci := 10) (v := .ref ((u 1))) (C := R_Deeds) (T := F_Deeds) (N := 8) hx hb htt iw_Deeds hown hK hP 10 xo_10 rfl 0 (Nat.le_of_ble_eq_true rfl) (htt _ lk_Deeds_15) (fun _ h9 => h9) xg_10_0 d_Deeds_canBeInputs_1 ?_
  refine lv_iload_n hx hb d_Deeds_canBeInputs_4 rfl (lv_at hl 1 rfl) ?_
  obtain ⟨r_2, h_1, hm⟩ := ob0_some hm
  have hFc := x_free0 hS hA
  refine va_calli (va_runV (As := [.int v1]) (rest := []) ⟨hx, hb, hml, hown, hts⟩ (x_Heap_count l dC dI cI adK adV adA u o g s.heap.size n h_1) (cwV 1 hts (tw_GV tw_cons cw_Heap_count lk_Deeds_173 in_Heap_count sel_Heap_count ini_Heap) rfl rfl rfl ⟨rfl, hd_Heap_count⟩ ⟨Nat.le_of_ble_eq_true rfl, Nat.le_of_ble_eq_true rfl⟩) (xpVr hK hP hS hE hFc xo_1 rfl) rfl rfl hl.1 rfl (lv_room (Nat.le_of_ble_eq_true rfl)) d_Deeds_canBeInputs_5 ⟨Nat.le_of_ble_eq_true rfl, Nat.le_of_ble_eq_true rfl⟩) hS (fun q _ h => hFc q h) hFc (fun r9 u9 t9 H locs ht hvm e9 hB hz1 hk1 hS => ?_)
  have e9 : r_2 = r9 := e9
  subst e9
  replace hP := x_keep hP hk1
  clear hFc hk1 hz1 hvm hB ht
  refine lv_istore_n (lv' := [(2, .int r_2), (0, .ref ((u 10))), (1, .int v1)]) hx hb d_Deeds_canBeInputs_8 rfl hl (by decide) rfl (fun ls hl => ?_)
  refine lv_iload_n hx hb d_Deeds_canBeInputs_9 rfl (lv_at hl 0 rfl) ?_
  refine lv_iconst (v := 5) hx hb d_Deeds_canBeInputs_10 (by decide) ?_
  refine lv_icmp_le (tgt := 16) hx hb d_Deeds_canBeInputs_11 (by decide) (fun c_3 => ?_) (fun c_3 => ?_)
  · replace hm := if_t c_3 hm
    refine lv_iconst (v := 0) hx hb d_Deeds_canBeInputs_16 (by decide) ?_
    refine lv_istore_n (lv' := [(3, .int 0), (2, .int r_2), (0, .ref ((u 10))), (1, .int v1)]) hx hb d_Deeds_canBeInputs_17 rfl hl (by decide) rfl (fun ls hl => ?_)
    exact lb_Deeds_canBeInputs_18 l dC dI cI adK adV adA u o g n hx hb hml hown hts hK hE hA hr hlocks n _ _ _ hm _ _ _ hP hS (lv_sub hl [2, 3, 1, 0] rfl)
  · replace hm := if_f c_3 hm
    refine lv_iconst (v := 0) hx hb d_Deeds_canBeInputs_14 (by decide) ?_
    have e3 := re1 hm
    exact W.zret hx hb hr (by decide) (fun t9 ht hW => ⟨⟨_, (), rfl, e3.symm, trivial⟩, hS.F ht⟩) hS.2.2 d_Deeds_canBeInputs_15

def m_Deeds_arity (n : Nat) (g : Nat → Nat) (i : Nat → Int32) (a : Nat → Nat → Int32) (v1 : Int32) : Option (Int32) := ob0 (m_Procedures_find n g i a v1) (fun r_2 => if ((0 : Int32)) ≤ r_2 then ck r_2 40 (ob0 (m_Heap_count n g i a (a 16 r_2.toNatClampNeg)) (fun r_6 => ob0 (m_Heap_number n r_6) (fun r_8 => some r_8))) else ob0 (m_Heap_number n (-1 : Int32)) (fun r_10 => some r_10))
set_option maxHeartbeats 4000000 in
set_option maxRecDepth 100000 in
theorem x_Deeds_arity (l : Launch) (dC : Nat → ClassId) (dI : Nat → Nat → Nat) (cI : ClassId) (adK adV adA u o g : Nat → Nat) (sz : Nat) (n : Nat) {i : Nat → Int32} {a : Nat → Nat → Int32} {v1 : Int32} {r2 : Int32} (hm : m_Deeds_arity n g i a v1 = some r2) : Met l y_Deeds_arity w_Deeds_arity ({ frames := 2, cells := 0, slots := 0, locals := 48 } : Room) (va_Pc [.ref ((u 10)), .int v1] (xEr dC dI cI adK adV adA u o g i a sz)) (va_Qi (xR r2) xT (xN sz)) 0 0 (xN sz) := by
  refine Met.ofW (cc := b_Deeds_arity) (maxL := 3) (ret := (some .int)) (by decide) rfl ?_
  intro p e s m args below meth c s₁ B hml hv
  obtain ⟨rfl, hsz, hP, hK, hE⟩ := hv
  have hx := B.exec
  have hb := B.bytes
  have hr := B.returns
  have hts := atoms_spec (ws := w_Deeds_arity) B.pre
  have htt : ∀ w ∈ tw_T, w.before _ s = true := fun w h => hts w (List.mem_cons_of_mem _ h)
  have hown : s.vm.findClass R_Deeds = some m.cls := findClass_of_methodNamed B.named
  have hlocks := B.notSynchronized
  subst hsz
  generalize hAe : xN s.heap.size = A at hE ⊢
  have hA : ∀ q : Nat, s.heap.size ≤ q → A q := fun q h => by rw [← hAe]; exact Or.inr h
  have hS : va_S A s.heap s.heap [] := va_S.rf
  have hl := lv_entry ([.ref ((u 10)), .int v1]) (n := 3) (Nat.le_of_ble_eq_true rfl)
  rw [lg_entry_eq]
  generalize (lg_sl ([.ref ((u 10)), .int v1]) ++ List.replicate (3 - (lg_sl ([.ref ((u 10)), .int v1])).length) Slot.unset).toArray = ls at hl ⊢
  have hl : lv_has ls 3 [(0, .ref ((u 10))), (1, .int v1)] := hl
  rw [m_Deeds_arity] at hm
  refine lv_aload_n hx hb d_Deeds_arity_0 rfl (lv_at hl 0 rfl) ?_
  refine va_get (D := (dC, dI)) (ci := 10) (v := .ref ((u 4))) (C := R_Deeds) (T := F_Deeds) (N := 8) hx hb htt iw_Deeds hown hK hP 10 xo_10 rfl 4 (Nat.le_of_ble_eq_true rfl) (htt _ lk_Deeds_30) (fun _ h9 => h9) xg_10_4 d_Deeds_arity_1 ?_
  refine lv_iload_n hx hb d_Deeds_arity_4 rfl (lv_at hl 1 rfl) ?_
  obtain ⟨r_2, h_1, hm⟩ := ob0_some hm
  have hFc := x_free0 hS hA
  refine va_calli (va_runV (As := [.int v1]) (rest := []) ⟨hx, hb, hml, hown, hts⟩ (x_Procedures_find l dC dI cI adK adV adA u o g s.heap.size n h_1) (cwV 1 hts (tw_GV tw_cons cw_Procedures_find lk_Deeds_289 in_Procedures_find sel_Procedures_find ini_Procedures) rfl rfl rfl ⟨rfl, hd_Procedures_find⟩ ⟨Nat.le_of_ble_eq_true rfl, Nat.le_of_ble_eq_true rfl⟩) (xpVr hK hP hS hE hFc xo_4 rfl) rfl rfl hl.1 rfl (lv_room (Nat.le_of_ble_eq_true rfl)) d_Deeds_arity_5 ⟨Nat.le_of_ble_eq_true rfl, Nat.le_of_ble_eq_true rfl⟩) hS (fun q _ h => hFc q h) hFc (fun r9 u9 t9 H locs ht hvm e9 hB hz1 hk1 hS => ?_)
  have e9 : r_2 = r9 := e9
  subst e9
  replace hP := x_keep hP hk1
  clear hFc hk1 hz1 hvm hB ht
  refine lv_istore_n (lv' := [(2, .int r_2), (0, .ref ((u 10))), (1, .int v1)]) hx hb d_Deeds_arity_8 rfl hl (by decide) rfl (fun ls hl => ?_)
  refine lv_iload_n hx hb d_Deeds_arity_9 rfl (lv_at hl 0 rfl) ?_
  refine lv_if_ge (tgt := 17) hx hb d_Deeds_arity_10 (by decide) (fun c_3 => ?_) (fun c_3 => ?_)
  · replace hm := if_t c_3 hm
    refine lv_aload_n hx hb d_Deeds_arity_17 rfl (lv_at hl 1 rfl) ?_
    refine va_get (D := (dC, dI)) (ci := 10) (v := .ref ((u 1))) (C := R_Deeds) (T := F_Deeds) (N := 8) hx hb htt iw_Deeds hown hK hP 10 xo_10 rfl 0 (Nat.le_of_ble_eq_true rfl) (htt _ lk_Deeds_15) (fun _ h9 => h9) xg_10_0 d_Deeds_arity_18 ?_
    refine lv_aload_n hx hb d_Deeds_arity_21 rfl (lv_at hl 1 rfl) ?_
    refine va_get (D := (dC, dI)) (ci := 10) (v := .ref ((u 4))) (C := R_Deeds) (T := F_Deeds) (N := 8) hx hb htt iw_Deeds hown hK hP 10 xo_10 rfl 4 (Nat.le_of_ble_eq_true rfl) (htt _ lk_Deeds_30) (fun _ h9 => h9) xg_10_4 d_Deeds_arity_22 ?_
    refine va_get (D := (dC, dI)) (ci := 4) (v := .ref ((u 26))) (C := R_Procedures) (T := F_Procedures) (N := 8) hx hb htt iw_Procedures hown hK hP 4 xo_4 rfl 2 (Nat.le_of_ble_eq_true rfl) (htt _ lk_Deeds_290) (fun _ h9 => h9) xg_4_2 d_Deeds_arity_25 ?_
    refine lv_iload_n hx hb d_Deeds_arity_28 rfl (lv_at hl 0 rfl) ?_
    obtain ⟨h_4, hm⟩ := ck_some hm
    refine va_iald hx hb hK hP 28 0 twA_16 rfl h_4 d_Deeds_arity_29 ?_
    obtain ⟨r_6, h_5, hm⟩ := ob0_some hm
    have hFc := x_free0 hS hA
    refine va_calli (va_runV (As := [.int (a 16 r_2.toNatClampNeg)]) (rest := []) ⟨hx, hb, hml, hown, hts⟩ (x_Heap_count l dC dI cI adK adV adA u o g H.size n h_5) (cwV 1 hts (tw_GV tw_cons cw_Heap_count lk_Deeds_173 in_Heap_count sel_Heap_count ini_Heap) rfl rfl rfl ⟨rfl, hd_Heap_count⟩ ⟨Nat.le_of_ble_eq_true rfl, Nat.le_of_ble_eq_true rfl⟩) (xpVr hK hP hS hE hFc xo_1 rfl) rfl rfl hl.1 rfl (lv_room (Nat.le_of_ble_eq_true rfl)) d_Deeds_arity_30 ⟨Nat.le_of_ble_eq_true rfl, Nat.le_of_ble_eq_true rfl⟩) hS (fun q _ h => hFc q h) hFc (fun r9 u9 t9 H locs ht hvm e9 hB hz1 hk1 hS => ?_)
    have e9 : r_6 = r9 := e9
    subst e9
    replace hP := x_keep hP hk1
    clear hFc hk1 hz1 hvm hB ht
    obtain ⟨r_8, h_7, hm⟩ := ob0_some hm
    have hFc := x_free0 hS hA
    refine va_calli (va_runS (As := [.int r_6]) (rest := []) ⟨hx, hb, hml, hown, hts⟩ (x_Heap_number l H.size n h_7) (va_cwS 1 hts (tw_GS tw_cons cw_Heap_number lk_Deeds_127 st_Heap_number ini_Heap) rfl rfl rfl hd_Heap_number ⟨Nat.le_of_ble_eq_true rfl, Nat.le_of_ble_eq_true rfl⟩) xpS0 rfl rfl hl.1 rfl (lv_room (Nat.le_of_ble_eq_true rfl)) d_Deeds_arity_33 ⟨Nat.le_of_ble_eq_true rfl, Nat.le_of_ble_eq_true rfl⟩) hS (fun q _ h => hFc q h) hFc (fun r9 u9 t9 H locs ht hvm e9 hB hz1 hk1 hS => ?_)
    have e9 : r_8 = r9 := e9
    subst e9
    replace hP := x_keep hP hk1
    clear hFc hk1 hz1 hvm hB ht
    have e3 := re1 hm
    exact W.iret hx hb hr (fun t9 ht hW => ⟨⟨_, (), rfl, e3.symm, trivial⟩, hS.F ht⟩) hS.2.2 d_Deeds_arity_36
  · replace hm := if_f c_3 hm
    refine lv_iconst (v := -1) hx hb d_Deeds_arity_13 (by decide) ?_
    refine lv_goto (tgt := 33) hx hb d_Deeds_arity_14 (by decide) ?_
    obtain ⟨r_10, h_9, hm⟩ := ob0_some hm
    have hFc := x_free0 hS hA
    refine va_calli (va_runS (As := [.int ((-1))]) (rest := []) ⟨hx, hb, hml, hown, hts⟩ (x_Heap_number l H.size n h_9) (va_cwS 1 hts (tw_GS tw_cons cw_Heap_number lk_Deeds_127 st_Heap_number ini_Heap) rfl rfl rfl hd_Heap_number ⟨Nat.le_of_ble_eq_true rfl, Nat.le_of_ble_eq_true rfl⟩) xpS0 rfl rfl hl.1 rfl (lv_room (Nat.le_of_ble_eq_true rfl)) d_Deeds_arity_33 ⟨Nat.le_of_ble_eq_true rfl, Nat.le_of_ble_eq_true rfl⟩) hS (fun q _ h => hFc q h) hFc (fun r9 u9 t9 H locs ht hvm e9 hB hz1 hk1 hS => ?_)
    have e9 : r_10 = r9 := e9
    subst e9
    replace hP := x_keep hP hk1
    clear hFc hk1 hz1 hvm hB ht
    have e3 := re1 hm
    exact W.iret hx hb hr (fun t9 ht hW => ⟨⟨_, (), rfl, e3.symm, trivial⟩, hS.F ht⟩) hS.2.2 d_Deeds_arity_36

def m_Deeds_text (n : Nat) (g : Nat → Nat) (i : Nat → Int32) (a : Nat → Nat → Int32) (v1 : Int32) : Option (Int32) := ob0 (m_Procedures_find n g i a v1) (fun r_2 => if ((0 : Int32)) ≤ r_2 then ck r_2 40 (some (a 17 r_2.toNatClampNeg)) else some ((-2147483647)))
set_option maxHeartbeats 4000000 in
set_option maxRecDepth 100000 in
theorem x_Deeds_text (l : Launch) (dC : Nat → ClassId) (dI : Nat → Nat → Nat) (cI : ClassId) (adK adV adA u o g : Nat → Nat) (sz : Nat) (n : Nat) {i : Nat → Int32} {a : Nat → Nat → Int32} {v1 : Int32} {r2 : Int32} (hm : m_Deeds_text n g i a v1 = some r2) : Met l y_Deeds_text w_Deeds_text ({ frames := 2, cells := 0, slots := 0, locals := 48 } : Room) (va_Pc [.ref ((u 10)), .int v1] (xEr dC dI cI adK adV adA u o g i a sz)) (va_Qi (xR r2) xT (xN sz)) 0 0 (xN sz) := by
  refine Met.ofW (cc := b_Deeds_text) (maxL := 3) (ret := (some .int)) (by decide) rfl ?_
  intro p e s m args below meth c s₁ B hml hv
  obtain ⟨rfl, hsz, hP, hK, hE⟩ := hv
  have hx := B.exec
  have hb := B.bytes
  have hr := B.returns
  have hts := atoms_spec (ws := w_Deeds_text) B.pre
  have htt : ∀ w ∈ tw_T, w.before _ s = true := fun w h => hts w (List.mem_cons_of_mem _ h)
  have hown : s.vm.findClass R_Deeds = some m.cls := findClass_of_methodNamed B.named
  have hlocks := B.notSynchronized
  subst hsz
  generalize hAe : xN s.heap.size = A at hE ⊢
  have hA : ∀ q : Nat, s.heap.size ≤ q → A q := fun q h => by rw [← hAe]; exact Or.inr h
  have hS : va_S A s.heap s.heap [] := va_S.rf
  have hl := lv_entry ([.ref ((u 10)), .int v1]) (n := 3) (Nat.le_of_ble_eq_true rfl)
  rw [lg_entry_eq]
  generalize (lg_sl ([.ref ((u 10)), .int v1]) ++ List.replicate (3 - (lg_sl ([.ref ((u 10)), .int v1])).length) Slot.unset).toArray = ls at hl ⊢
  have hl : lv_has ls 3 [(0, .ref ((u 10))), (1, .int v1)] := hl
  rw [m_Deeds_text] at hm
  refine lv_aload_n hx hb d_Deeds_text_0 rfl (lv_at hl 0 rfl) ?_
  refine va_get (D := (dC, dI)) (ci := 10) (v := .ref ((u 4))) (C := R_Deeds) (T := F_Deeds) (N := 8) hx hb htt iw_Deeds hown hK hP 10 xo_10 rfl 4 (Nat.le_of_ble_eq_true rfl) (htt _ lk_Deeds_30) (fun _ h9 => h9) xg_10_4 d_Deeds_text_1 ?_
  refine lv_iload_n hx hb d_Deeds_text_4 rfl (lv_at hl 1 rfl) ?_
  obtain ⟨r_2, h_1, hm⟩ := ob0_some hm
  have hFc := x_free0 hS hA
  refine va_calli (va_runV (As := [.int v1]) (rest := []) ⟨hx, hb, hml, hown, hts⟩ (x_Procedures_find l dC dI cI adK adV adA u o g s.heap.size n h_1) (cwV 1 hts (tw_GV tw_cons cw_Procedures_find lk_Deeds_289 in_Procedures_find sel_Procedures_find ini_Procedures) rfl rfl rfl ⟨rfl, hd_Procedures_find⟩ ⟨Nat.le_of_ble_eq_true rfl, Nat.le_of_ble_eq_true rfl⟩) (xpVr hK hP hS hE hFc xo_4 rfl) rfl rfl hl.1 rfl (lv_room (Nat.le_of_ble_eq_true rfl)) d_Deeds_text_5 ⟨Nat.le_of_ble_eq_true rfl, Nat.le_of_ble_eq_true rfl⟩) hS (fun q _ h => hFc q h) hFc (fun r9 u9 t9 H locs ht hvm e9 hB hz1 hk1 hS => ?_)
  have e9 : r_2 = r9 := e9
  subst e9
  replace hP := x_keep hP hk1
  clear hFc hk1 hz1 hvm hB ht
  refine lv_istore_n (lv' := [(2, .int r_2), (0, .ref ((u 10))), (1, .int v1)]) hx hb d_Deeds_text_8 rfl hl (by decide) rfl (fun ls hl => ?_)
  refine lv_iload_n hx hb d_Deeds_text_9 rfl (lv_at hl 0 rfl) ?_
  refine lv_if_ge (tgt := 18) hx hb d_Deeds_text_10 (by decide) (fun c_3 => ?_) (fun c_3 => ?_)
  · replace hm := if_t c_3 hm
    refine lv_aload_n hx hb d_Deeds_text_18 rfl (lv_at hl 1 rfl) ?_
    refine va_get (D := (dC, dI)) (ci := 10) (v := .ref ((u 4))) (C := R_Deeds) (T := F_Deeds) (N := 8) hx hb htt iw_Deeds hown hK hP 10 xo_10 rfl 4 (Nat.le_of_ble_eq_true rfl) (htt _ lk_Deeds_30) (fun _ h9 => h9) xg_10_4 d_Deeds_text_19 ?_
    refine va_get (D := (dC, dI)) (ci := 4) (v := .ref ((u 27))) (C := R_Procedures) (T := F_Procedures) (N := 8) hx hb htt iw_Procedures hown hK hP 4 xo_4 rfl 3 (Nat.le_of_ble_eq_true rfl) (htt _ lk_Deeds_293) (fun _ h9 => h9) xg_4_3 d_Deeds_text_22 ?_
    refine lv_iload_n hx hb d_Deeds_text_25 rfl (lv_at hl 0 rfl) ?_
    obtain ⟨h_4, hm⟩ := ck_some hm
    refine va_iald hx hb hK hP 29 0 twA_17 rfl h_4 d_Deeds_text_26 ?_
    have e3 := re1 hm
    exact W.iret hx hb hr (fun t9 ht hW => ⟨⟨_, (), rfl, e3.symm, trivial⟩, hS.F ht⟩) hS.2.2 d_Deeds_text_27
  · replace hm := if_f c_3 hm
    refine lv_ldc (v := (-2147483647)) hx hb hown (htt _ lk_Deeds_142) d_Deeds_text_13 ?_
    refine lv_goto (tgt := 27) hx hb d_Deeds_text_15 (by decide) ?_
    have e3 := re1 hm
    exact W.iret hx hb hr (fun t9 ht hW => ⟨⟨_, (), rfl, e3.symm, trivial⟩, hS.F ht⟩) hS.2.2 d_Deeds_text_27

def m_Machine_repeat (n : Nat) (g : Nat → Nat) (i : Nat → Int32) (a : Nat → Nat → Int32) (v1 : Int32) (v2 : Int32) : Option ((Nat → Int32) × (Nat → Nat → Int32) × Int32) := if ((0 : Int32)) < v1 then ob (m_Machine_open n g i a (3 : Int32) v2 (-2147483648 : Int32) (-2147483648 : Int32)) (fun i_3 a_4 r_5 => if r_5 = ((-2147483584 : Int32)) then ck (((i_3 40) - 1)) 150 (ob1 (sv a_4 41 ((i_3 40) - 1).toNatClampNeg v1 : Nat → Nat → Int32) (fun a_8 => some (i_3, a_8, r_5))) else some (i_3, a_4, r_5)) else some (i, a, (-2147483648))
set_option maxHeartbeats 4000000 in
set_option maxRecDepth 100000 in
theorem x_Machine_repeat (l : Launch) (dC : Nat → ClassId) (dI : Nat → Nat → Nat) (cI : ClassId) (adK adV adA u o g : Nat → Nat) (sz : Nat) (n : Nat) {i : Nat → Int32} {a : Nat → Nat → Int32} {v1 : Int32} {v2 : Int32} {i2 : Nat → Int32} {a2 : Nat → Nat → Int32} {r2 : Int32} (hm : m_Machine_repeat n g i a v1 v2 = some (i2, a2, r2)) : Met l y_Machine_repeat w_Machine_repeat ({ frames := 2, cells := 0, slots := 0, locals := 47 } : Room) (va_Pc [.ref ((u 11)), .int v1, .int v2] (xE dC dI cI adK adV adA u o g i a sz)) (va_Qi (xR r2) (xB dC dI cI u o g i2 a2 (va_A (TW cI u o i a g) sz)) (va_A (TW cI u o i a g) sz)) 0 0 ((va_A (TW cI u o i a g) sz)) := by
  refine Met.ofW (cc := b_Machine_repeat) (maxL := 4) (ret := (some .int)) (by decide) rfl ?_
  intro p e s m args below meth c s₁ B hml hv
  obtain ⟨rfl, hsz, hP, hK, hE, hD0⟩ := hv
  have hx := B.exec
  have hb := B.bytes
  have hr := B.returns
  have hts := atoms_spec (ws := w_Machine_repeat) B.pre
  have htt : ∀ w ∈ tw_T, w.before _ s = true := fun w h => hts w (List.mem_cons_of_mem _ h)
  have hown : s.vm.findClass R_Machine = some m.cls := findClass_of_methodNamed B.named
  have hlocks := B.notSynchronized
  subst hsz
  have hD := hD0.self (sz := s.heap.size)
  generalize hAe : (va_A (TW cI u o i a g) s.heap.size) = A at hD hE ⊢
  have hA : ∀ q : Nat, s.heap.size ≤ q → A q := fun q h => by rw [← hAe]; exact Or.inr h
  have hS : va_S A s.heap s.heap [] := va_S.rf
  have hl := lv_entry ([.ref ((u 11)), .int v1, .int v2]) (n := 4) (Nat.le_of_ble_eq_true rfl)
  rw [lg_entry_eq]
  generalize (lg_sl ([.ref ((u 11)), .int v1, .int v2]) ++ List.replicate (4 - (lg_sl ([.ref ((u 11)), .int v1, .int v2])).length) Slot.unset).toArray = ls at hl ⊢
  have hl : lv_has ls 4 [(0, .ref ((u 11))), (1, .int v1), (2, .int v2)] := hl
  rw [m_Machine_repeat] at hm
  refine lv_iload_n hx hb d_Machine_repeat_0 rfl (lv_at hl 1 rfl) ?_
  refine lv_if_gt (tgt := 7) hx hb d_Machine_repeat_1 (by decide) (fun c_1 => ?_) (fun c_1 => ?_)
  · replace hm := if_t c_1 hm
    refine lv_aload_n hx hb d_Machine_repeat_7 rfl (lv_at hl 0 rfl) ?_
    refine lv_iconst (v := 3) hx hb d_Machine_repeat_8 (by decide) ?_
    refine lv_iload_n hx hb d_Machine_repeat_9 rfl (lv_at hl 2 rfl) ?_
    refine lv_ldc (v := (-2147483648)) hx hb hown (htt _ lk_Machine_114) d_Machine_repeat_10 ?_
    refine lv_ldc (v := (-2147483648)) hx hb hown (htt _ lk_Machine_114) d_Machine_repeat_12 ?_
    obtain ⟨i_3, a_4, r_5, h_2, hm⟩ := ob_some hm
    have hFc := x_free hD hS hA
    refine va_calli (va_runV (As := [.int 3, .int v2, .int ((-2147483648)), .int ((-2147483648))]) (rest := []) ⟨hx, hb, hml, hown, hts⟩ (x_Machine_open l dC dI cI adK adV adA u o g s.heap.size n h_2) (cwV 4 hts (tw_GV tw_cons cw_Machine_open lk_Machine_353 in_Machine_open sel_Machine_open ini_Machine) rfl rfl rfl ⟨rfl, hd_Machine_open⟩ ⟨Nat.le_of_ble_eq_true rfl, Nat.le_of_ble_eq_true rfl⟩) (xpV hK hP hD hS hE hFc xo_11 rfl) rfl rfl hl.1 rfl (lv_room (Nat.le_of_ble_eq_true rfl)) d_Machine_repeat_14 ⟨Nat.le_of_ble_eq_true rfl, Nat.le_of_ble_eq_true rfl⟩) hS (fun q _ h => hFc q h) hFc (fun r9 u9 t9 H locs ht hvm e9 hB hz1 hk1 hS => ?_)
    have e9 : r_5 = r9 := e9
    subst e9
    obtain ⟨hP, hD⟩ := x_aft hB ht hFc
    clear hFc hk1 hz1 hvm hB ht
    refine lv_istore_n (lv' := [(3, .int r_5), (0, .ref ((u 11))), (1, .int v1), (2, .int v2)]) hx hb d_Machine_repeat_17 rfl hl (by decide) rfl (fun ls hl => ?_)
    refine lv_iload_n hx hb d_Machine_repeat_18 rfl (lv_at hl 0 rfl) ?_
    refine lv_ldc (v := (-2147483584)) hx hb hown (htt _ lk_Machine_110) d_Machine_repeat_19 ?_
    refine lv_icmp_ne (tgt := 42) hx hb d_Machine_repeat_21 (by decide) (fun c_6 => ?_) (fun c_6 => ?_)
    · replace hm := if_f c_6 hm
      refine lv_iload_n hx hb d_Machine_repeat_42 rfl (lv_at hl 0 rfl) ?_
      obtain ⟨e1i, e1a, e3⟩ := re3 hm
      obtain ⟨hP, hD⟩ := x_eq e1i e1a hP hD
      exact W.iret hx hb hr (fun t9 ht hW => ⟨⟨_, (), rfl, e3.symm, by rw [ht]; exact hP, hD⟩, hS.F ht⟩) hS.2.2 d_Machine_repeat_43
    · replace hm := if_t c_6 hm
      refine lv_aload_n hx hb d_Machine_repeat_24 rfl (lv_at hl 1 rfl) ?_
      refine va_get (D := (dC, dI)) (ci := 11) (v := .ref ((u 8))) (C := R_Machine) (T := F_Machine) (N := 9) hx hb htt iw_Machine hown hK hP 11 xo_11 rfl 1 (Nat.le_of_ble_eq_true rfl) (htt _ lk_Machine_18) (fun _ h9 => h9) xg_11_1 d_Machine_repeat_25 ?_
      refine va_get (D := (dC, dI)) (ci := 8) (v := .ref ((u 51))) (C := R_Line) (T := F_Line) (N := 18) hx hb htt iw_Line hown hK hP 8 xo_8 rfl 12 (Nat.le_of_ble_eq_true rfl) (htt _ lk_Machine_258) (fun _ h9 => h9) xg_8_12 d_Machine_repeat_28 ?_
      refine lv_aload_n hx hb d_Machine_repeat_31 rfl (lv_at hl 1 rfl) ?_
      refine va_get (D := (dC, dI)) (ci := 11) (v := .ref ((u 8))) (C := R_Machine) (T := F_Machine) (N := 9) hx hb htt iw_Machine hown hK hP 11 xo_11 rfl 1 (Nat.le_of_ble_eq_true rfl) (htt _ lk_Machine_18) (fun _ h9 => h9) xg_11_1 d_Machine_repeat_32 ?_
      refine va_get (D := (dC, dI)) (ci := 8) (v := .int (i_3 40)) (C := R_Line) (T := F_Line) (N := 18) hx hb htt iw_Line hown hK hP 8 xo_8 rfl 6 (Nat.le_of_ble_eq_true rfl) (htt _ lk_Machine_130) (fun _ h9 => h9) xg_8_6 d_Machine_repeat_35 ?_
      refine lv_iconst (v := 1) hx hb d_Machine_repeat_38 (by decide) ?_
      refine lv_isub hx hb d_Machine_repeat_39 ?_
      refine lv_iload_n hx hb d_Machine_repeat_40 rfl (lv_at hl 2 rfl) ?_
      obtain ⟨h_7, hm⟩ := ck_some hm
      refine va_iast hx hb hK hP hD hS 53 0 twA_41 rfl h_7 d_Machine_repeat_41 (fun H locs hP hD hS => ?_)
      obtain ⟨a_8, ea_8⟩ : ∃ y9 : Nat → Nat → Int32, y9 = sv a_4 41 ((i_3 40) - 1).toNatClampNeg v1 := ⟨_, rfl⟩
      replace hm := ob1_at ea_8 hm
      obtain ⟨hP, hD⟩ := xv_41 ea_8 hP hD
      refine lv_iload_n hx hb d_Machine_repeat_42 rfl (lv_at hl 0 rfl) ?_
      obtain ⟨e1i, e1a, e3⟩ := re3 hm
      obtain ⟨hP, hD⟩ := x_eq e1i e1a hP hD
      exact W.iret hx hb hr (fun t9 ht hW => ⟨⟨_, (), rfl, e3.symm, by rw [ht]; exact hP, hD⟩, hS.F ht⟩) hS.2.2 d_Machine_repeat_43
  · replace hm := if_f c_1 hm
    refine lv_ldc (v := (-2147483648)) hx hb hown (htt _ lk_Machine_114) d_Machine_repeat_4 ?_
    obtain ⟨e1i, e1a, e3⟩ := re3 hm
    obtain ⟨hP, hD⟩ := x_eq e1i e1a hP hD
    exact W.iret hx hb hr (fun t9 ht hW => ⟨⟨_, (), rfl, e3.symm, by rw [ht]; exact hP, hD⟩, hS.F ht⟩) hS.2.2 d_Machine_repeat_6

def m_Machine_current (n : Nat) (g : Nat → Nat) (i : Nat → Int32) (a : Nat → Nat → Int32)  : Option (Int32) := ob0 (m_Line_newest n g i a (5 : Int32) (10 : Int32)) (fun r_2 => if ((0 : Int32)) ≤ r_2 then ck r_2 150 (ck r_2 150 (ob0 (m_Heap_member n g i a (a 42 r_2.toNatClampNeg) ((a 40 r_2.toNatClampNeg) - 1)) (fun r_7 => some r_7))) else some ((-2147483647)))
set_option maxHeartbeats 4000000 in
set_option maxRecDepth 100000 in
theorem x_Machine_current (l : Launch) (dC : Nat → ClassId) (dI : Nat → Nat → Nat) (cI : ClassId) (adK adV adA u o g : Nat → Nat) (sz : Nat) (n : Nat) {i : Nat → Int32} {a : Nat → Nat → Int32}  {r2 : Int32} (hm : m_Machine_current n g i a = some r2) : Met l y_Machine_current w_Machine_current ({ frames := 2, cells := 0, slots := 0, locals := 45 } : Room) (va_Pc [.ref ((u 11))] (xEr dC dI cI adK adV adA u o g i a sz)) (va_Qi (xR r2) xT (xN sz)) 0 0 (xN sz) := by
  refine Met.ofW (cc := b_Machine_current) (maxL := 2) (ret := (some .int)) (by decide) rfl ?_
  intro p e s m args below meth c s₁ B hml hv
  obtain ⟨rfl, hsz, hP, hK, hE⟩ := hv
  have hx := B.exec
  have hb := B.bytes
  have hr := B.returns
  have hts := atoms_spec (ws := w_Machine_current) B.pre
  have htt : ∀ w ∈ tw_T, w.before _ s = true := fun w h => hts w (List.mem_cons_of_mem _ h)
  have hown : s.vm.findClass R_Machine = some m.cls := findClass_of_methodNamed B.named
  have hlocks := B.notSynchronized
  subst hsz
  generalize hAe : xN s.heap.size = A at hE ⊢
  have hA : ∀ q : Nat, s.heap.size ≤ q → A q := fun q h => by rw [← hAe]; exact Or.inr h
  have hS : va_S A s.heap s.heap [] := va_S.rf
  have hl := lv_entry ([.ref ((u 11))]) (n := 2) (Nat.le_of_ble_eq_true rfl)
  rw [lg_entry_eq]
  generalize (lg_sl ([.ref ((u 11))]) ++ List.replicate (2 - (lg_sl ([.ref ((u 11))])).length) Slot.unset).toArray = ls at hl ⊢
  have hl : lv_has ls 2 [(0, .ref ((u 11)))] := hl
  rw [m_Machine_current] at hm
  refine lv_aload_n hx hb d_Machine_current_0 rfl (lv_at hl 0 rfl) ?_
  refine va_get (D := (dC, dI)) (ci := 11) (v := .ref ((u 8))) (C := R_Machine) (T := F_Machine) (N := 9) hx hb htt iw_Machine hown hK hP 11 xo_11 rfl 1 (Nat.le_of_ble_eq_true rfl) (htt _ lk_Machine_18) (fun _ h9 => h9) xg_11_1 d_Machine_current_1 ?_
  refine lv_iconst (v := 5) hx hb d_Machine_current_4 (by decide) ?_
  refine lv_bipush (v := 10) hx hb d_Machine_current_5 (by decide) ?_
  obtain ⟨r_2, h_1, hm⟩ := ob0_some hm
  have hFc := x_free0 hS hA
  refine va_calli (va_runV (As := [.int 5, .int 10]) (rest := []) ⟨hx, hb, hml, hown, hts⟩ (x_Line_newest l dC dI cI adK adV adA u o g s.heap.size n h_1) (cwV 2 hts (tw_GV tw_cons cw_Line_newest lk_Machine_386 in_Line_newest sel_Line_newest ini_Line) rfl rfl rfl ⟨rfl, hd_Line_newest⟩ ⟨Nat.le_of_ble_eq_true rfl, Nat.le_of_ble_eq_true rfl⟩) (xpVr hK hP hS hE hFc xo_8 rfl) rfl rfl hl.1 rfl (lv_room (Nat.le_of_ble_eq_true rfl)) d_Machine_current_7 ⟨Nat.le_of_ble_eq_true rfl, Nat.le_of_ble_eq_true rfl⟩) hS (fun q _ h => hFc q h) hFc (fun r9 u9 t9 H locs ht hvm e9 hB hz1 hk1 hS => ?_)
  have e9 : r_2 = r9 := e9
  subst e9
  replace hP := x_keep hP hk1
  clear hFc hk1 hz1 hvm hB ht
  refine lv_istore_n (lv' := [(1, .int r_2), (0, .ref ((u 11)))]) hx hb d_Machine_current_10 rfl hl (by decide) rfl (fun ls hl => ?_)
  refine lv_iload_n hx hb d_Machine_current_11 rfl (lv_at hl 0 rfl) ?_
  refine lv_if_ge (tgt := 20) hx hb d_Machine_current_12 (by decide) (fun c_3 => ?_) (fun c_3 => ?_)
  · replace hm := if_t c_3 hm
    refine lv_aload_n hx hb d_Machine_current_20 rfl (lv_at hl 1 rfl) ?_
    refine va_get (D := (dC, dI)) (ci := 11) (v := .ref ((u 1))) (C := R_Machine) (T := F_Machine) (N := 9) hx hb htt iw_Machine hown hK hP 11 xo_11 rfl 0 (Nat.le_of_ble_eq_true rfl) (htt _ lk_Machine_15) (fun _ h9 => h9) xg_11_0 d_Machine_current_21 ?_
    refine lv_aload_n hx hb d_Machine_current_24 rfl (lv_at hl 1 rfl) ?_
    refine va_get (D := (dC, dI)) (ci := 11) (v := .ref ((u 8))) (C := R_Machine) (T := F_Machine) (N := 9) hx hb htt iw_Machine hown hK hP 11 xo_11 rfl 1 (Nat.le_of_ble_eq_true rfl) (htt _ lk_Machine_18) (fun _ h9 => h9) xg_11_1 d_Machine_current_25 ?_
    refine va_get (D := (dC, dI)) (ci := 8) (v := .ref ((u 52))) (C := R_Line) (T := F_Line) (N := 18) hx hb htt iw_Line hown hK hP 8 xo_8 rfl 13 (Nat.le_of_ble_eq_true rfl) (htt _ lk_Machine_267) (fun _ h9 => h9) xg_8_13 d_Machine_current_28 ?_
    refine lv_iload_n hx hb d_Machine_current_31 rfl (lv_at hl 0 rfl) ?_
    obtain ⟨h_4, hm⟩ := ck_some hm
    refine va_iald hx hb hK hP 54 0 twA_42 rfl h_4 d_Machine_current_32 ?_
    refine lv_aload_n hx hb d_Machine_current_33 rfl (lv_at hl 1 rfl) ?_
    refine va_get (D := (dC, dI)) (ci := 11) (v := .ref ((u 8))) (C := R_Machine) (T := F_Machine) (N := 9) hx hb htt iw_Machine hown hK hP 11 xo_11 rfl 1 (Nat.le_of_ble_eq_true rfl) (htt _ lk_Machine_18) (fun _ h9 => h9) xg_11_1 d_Machine_current_34 ?_
    refine va_get (D := (dC, dI)) (ci := 8) (v := .ref ((u 50))) (C := R_Line) (T := F_Line) (N := 18) hx hb htt iw_Line hown hK hP 8 xo_8 rfl 11 (Nat.le_of_ble_eq_true rfl) (htt _ lk_Machine_255) (fun _ h9 => h9) xg_8_11 d_Machine_current_37 ?_
    refine lv_iload_n hx hb d_Machine_current_40 rfl (lv_at hl 0 rfl) ?_
    obtain ⟨h_5, hm⟩ := ck_some hm
    refine va_iald hx hb hK hP 52 0 twA_40 rfl h_5 d_Machine_current_41 ?_
    refine lv_iconst (v := 1) hx hb d_Machine_current_42 (by decide) ?_
    refine lv_isub hx hb d_Machine_current_43 ?_
    obtain ⟨r_7, h_6, hm⟩ := ob0_some hm
    have hFc := x_free0 hS hA
    refine va_calli (va_runV (As := [.int (a 42 r_2.toNatClampNeg), .int ((a 40 r_2.toNatClampNeg) - 1)]) (rest := []) ⟨hx, hb, hml, hown, hts⟩ (x_Heap_member l dC dI cI adK adV adA u o g H.size n h_6) (cwV 2 hts (tw_GV tw_cons cw_Heap_member lk_Machine_167 in_Heap_member sel_Heap_member ini_Heap) rfl rfl rfl ⟨rfl, hd_Heap_member⟩ ⟨Nat.le_of_ble_eq_true rfl, Nat.le_of_ble_eq_true rfl⟩) (xpVr hK hP hS hE hFc xo_1 rfl) rfl rfl hl.1 rfl (lv_room (Nat.le_of_ble_eq_true rfl)) d_Machine_current_44 ⟨Nat.le_of_ble_eq_true rfl, Nat.le_of_ble_eq_true rfl⟩) hS (fun q _ h => hFc q h) hFc (fun r9 u9 t9 H locs ht hvm e9 hB hz1 hk1 hS => ?_)
    have e9 : r_7 = r9 := e9
    subst e9
    replace hP := x_keep hP hk1
    clear hFc hk1 hz1 hvm hB ht
    have e3 := re1 hm
    exact W.iret hx hb hr (fun t9 ht hW => ⟨⟨_, (), rfl, e3.symm, trivial⟩, hS.F ht⟩) hS.2.2 d_Machine_current_47
  · replace hm := if_f c_3 hm
    refine lv_ldc (v := (-2147483647)) hx hb hown (htt _ lk_Machine_208) d_Machine_current_15 ?_
    refine lv_goto (tgt := 47) hx hb d_Machine_current_17 (by decide) ?_
    have e3 := re1 hm
    exact W.iret hx hb hr (fun t9 ht hW => ⟨⟨_, (), rfl, e3.symm, trivial⟩, hS.F ht⟩) hS.2.2 d_Machine_current_47

def m_Machine_map_b60 (n : Nat) (i : Nat → Int32) (a : Nat → Nat → Int32) (g : Nat → Nat) (s0 : Int32) : Option ((Nat → Int32) × (Nat → Nat → Int32) × (Nat → Nat) × (Nat × Nat) × Int32) := if s0 = ((-2147483648 : Int32)) then some (i, a, g, (0, 0), (-2147483640)) else if s0 = ((-2147483642 : Int32)) then some (i, a, g, (0, 0), s0) else ob1 ((i 38) + 1 : Int32) (fun x_3 => ob1 (upd i 38 x_3 : Nat → Int32) (fun i_4 => some (i_4, a, g, (0, 0), s0)))
set_option maxHeartbeats 4000000 in
set_option maxRecDepth 100000 in
theorem lb_Machine_map_60 (l : Launch) (dC : Nat → ClassId) (dI : Nat → Nat → Nat) (cI : ClassId) (adK adV adA u : Nat → Nat) (n : Nat) {p : Program} {e : Env} {s : State} {m : MethodId} {args : Array Value} {below : List Frame} {meth : Method} {c : Code} {A : Nat → Prop} (hx : p.tables.exec = Jvm.exec) (hb : c.code = b_Machine_map) (hml : c.maxLocals = 5) (hown : s.vm.findClass R_Machine = some m.cls) (hts : ∀ w ∈ w_Machine_map, w.before args s = true) (hK : va_K (dC, dI) classes [(cI, .int)] s) (hE : tw_E adK adV adA A s s.heap) (hA : ∀ q : Nat, s.heap.size ≤ q → A q) (hr : meth.sig.returnType = (some .int)) (hlocks : meth.locks = false) {mc ms : Nat} {i2 : Nat → Int32} {a2 : Nat → Nat → Int32} {g2 : Nat → Nat} {r2 : Int32} (i : Nat → Int32) (a : Nat → Nat → Int32) (g : Nat → Nat) (s0 : Int32) (k2 : Nat × Nat) (hm : m_Machine_map_b60 n i a g s0 = some (i2, a2, g2, k2, r2)) : ∀ (o : Nat → Nat) (kc ks : Nat), kc + k2.1 = mc → ks + k2.2 = ms → ∀ (H : Heap) (locs : List Loc) (ls : Array Slot), va_P (dC, dI) classes (TW cI u o i a g) H → va_D A (TW cI u o i a g) → va_S A s.heap H locs → lv_has ls 5 [(0, .ref ((u 11)))] → W p l e ({ frames := 4, cells := mc, slots := ms, locals := 107 } : Room) s m args below meth c H locs kc ks (MQ below (va_Qi (xRg r2) (xBg dC dI cI u g2 i2 a2 A) A) args s mc ms A) (F0 m 60 ls [.int s0]) := by
  have htt : ∀ w ∈ tw_T, w.before _ s = true := fun w h => hts w (List.mem_cons_of_mem _ h)
  intro o kc ks hkc hks H locs ls hP hD hS hl
  rw [m_Machine_map_b60] at hm
  refine lv_istore (lv' := [(4, .int s0), (0, .ref ((u 11)))]) hx hb d_Machine_map_60 hl (by decide) rfl (fun ls hl => ?_)
  refine lv_iload hx hb d_Machine_map_62 (lv_at hl 0 rfl) ?_
  refine lv_ldc (v := (-2147483648)) hx hb hown (htt _ lk_Machine_114) d_Machine_map_64 ?_
  refine lv_icmp_ne (tgt := 73) hx hb d_Machine_map_66 (by decide) (fun c_1 => ?_) (fun c_1 => ?_)
  · replace hm := if_f c_1 hm
    refine lv_iload hx hb d_Machine_map_73 (lv_at hl 0 rfl) ?_
    refine lv_ldcw (v := (-2147483642)) hx hb hown (htt _ lk_Machine_340) d_Machine_map_75 ?_
    refine lv_icmp_eq (tgt := 94) hx hb d_Machine_map_78 (by decide) (fun c_2 => ?_) (fun c_2 => ?_)
    · replace hm := if_t c_2 hm
      refine lv_iload hx hb d_Machine_map_94 (lv_at hl 0 rfl) ?_
      obtain ⟨e1, e2, e4, e5, e6, e3⟩ := re5 hm
      obtain ⟨hP, hD⟩ := x_eqg e1 e2 e4 hP hD
      refine W.widen (k := mc) (n := ms) (show kc ≤ mc by omega) (show ks ≤ ms by omega) ?_
      exact W.iret hx hb hr (fun t9 ht hW => ⟨⟨_, o, rfl, e3.symm, by rw [ht]; exact hP, hD⟩, hS.F ht⟩) hS.2.2 d_Machine_map_96
    · replace hm := if_f c_2 hm
      refine lv_aload_n hx hb d_Machine_map_81 rfl (lv_at hl 1 rfl) ?_
      refine va_get (D := (dC, dI)) (ci := 11) (v := .ref ((u 8))) (C := R_Machine) (T := F_Machine) (N := 9) hx hb htt iw_Machine hown hK hP 11 xo_11 rfl 1 (Nat.le_of_ble_eq_true rfl) (htt _ lk_Machine_18) (fun _ h9 => h9) xg_11_1 d_Machine_map_82 ?_
      refine lv_dup hx hb d_Machine_map_85 rfl ?_
      refine va_get (D := (dC, dI)) (ci := 8) (v := .int (i 38)) (C := R_Line) (T := F_Line) (N := 18) hx hb htt iw_Line hown hK hP 8 xo_8 rfl 4 (Nat.le_of_ble_eq_true rfl) (htt _ lk_Machine_293) (fun _ h9 => h9) xg_8_4 d_Machine_map_86 ?_
      refine lv_iconst (v := 1) hx hb d_Machine_map_89 (by decide) ?_
      refine lv_iadd hx hb d_Machine_map_90 ?_
      refine lv_topi (fun x_3 ex_3 => ?_)
      replace hm := ob1_at ex_3 hm
      refine va_put (D := (dC, dI)) (ci := 8) (v := .int x_3) (ty := .int) (C := R_Line) (T := F_Line) (N := 18) hx hb htt iw_Line t_Line t_Line_ok n_Line hown hK hP hD hS 8 xo_8 rfl 4 (Nat.le_of_ble_eq_true rfl) (htt _ lk_Machine_293) (fun _ h9 => h9) rfl (by decide +kernel) rfl rfl xl_8_4 d_Machine_map_91 (fun H locs hP hD hS => ?_)
      obtain ⟨i_4, ei_4⟩ : ∃ y9 : Nat → Int32, y9 = upd i 38 x_3 := ⟨_, rfl⟩
      replace hm := ob1_at ei_4 hm
      obtain ⟨hP, hD⟩ := xw_38 ei_4 hP hD
      refine lv_iload hx hb d_Machine_map_94 (lv_at hl 0 rfl) ?_
      obtain ⟨e1, e2, e4, e5, e6, e3⟩ := re5 hm
      obtain ⟨hP, hD⟩ := x_eqg e1 e2 e4 hP hD
      refine W.widen (k := mc) (n := ms) (show kc ≤ mc by omega) (show ks ≤ ms by omega) ?_
      exact W.iret hx hb hr (fun t9 ht hW => ⟨⟨_, o, rfl, e3.symm, by rw [ht]; exact hP, hD⟩, hS.F ht⟩) hS.2.2 d_Machine_map_96
  · replace hm := if_t c_1 hm
    refine lv_ldcw (v := (-2147483640)) hx hb hown (htt _ lk_Machine_296) d_Machine_map_69 ?_
    obtain ⟨e1, e2, e4, e5, e6, e3⟩ := re5 hm
    obtain ⟨hP, hD⟩ := x_eqg e1 e2 e4 hP hD
    refine W.widen (k := mc) (n := ms) (show kc ≤ mc by omega) (show ks ≤ ms by omega) ?_
    exact W.iret hx hb hr (fun t9 ht hW => ⟨⟨_, o, rfl, e3.symm, by rw [ht]; exact hP, hD⟩, hS.F ht⟩) hS.2.2 d_Machine_map_72
def m_Machine_map_b33 (n : Nat) (i : Nat → Int32) (a : Nat → Nat → Int32) (g : Nat → Nat) (v1 : Int32) (v2 : Int32) (s0 : Int32) : Option ((Nat → Int32) × (Nat → Nat → Int32) × (Nat → Nat) × (Nat × Nat) × Int32) := if s0 = ((0 : Int32)) then ob (m_Machine_open n g i a (10 : Int32) v2 (-2147483648 : Int32) v1) (fun i_3 a_4 r_5 => m_Machine_map_b60 n i_3 a_4 g r_5) else obG (m_Heap_newList n g i a (0 : Int32) (1 : Int32)) (fun i_9 a_10 g_11 r_13 => m_Machine_map_b60 n i_9 a_10 g_11 r_13)
set_option maxHeartbeats 4000000 in
set_option maxRecDepth 100000 in
theorem lb_Machine_map_33 (l : Launch) (dC : Nat → ClassId) (dI : Nat → Nat → Nat) (cI : ClassId) (adK adV adA u : Nat → Nat) (n : Nat) {p : Program} {e : Env} {s : State} {m : MethodId} {args : Array Value} {below : List Frame} {meth : Method} {c : Code} {A : Nat → Prop} (hx : p.tables.exec = Jvm.exec) (hb : c.code = b_Machine_map) (hml : c.maxLocals = 5) (hown : s.vm.findClass R_Machine = some m.cls) (hts : ∀ w ∈ w_Machine_map, w.before args s = true) (hK : va_K (dC, dI) classes [(cI, .int)] s) (hE : tw_E adK adV adA A s s.heap) (hA : ∀ q : Nat, s.heap.size ≤ q → A q) (hr : meth.sig.returnType = (some .int)) (hlocks : meth.locks = false) {mc ms : Nat} {i2 : Nat → Int32} {a2 : Nat → Nat → Int32} {g2 : Nat → Nat} {r2 : Int32} (i : Nat → Int32) (a : Nat → Nat → Int32) (g : Nat → Nat) (v1 : Int32) (v2 : Int32) (s0 : Int32) (k2 : Nat × Nat) (hm : m_Machine_map_b33 n i a g v1 v2 s0 = some (i2, a2, g2, k2, r2)) : ∀ (o : Nat → Nat) (kc ks : Nat), kc + k2.1 = mc → ks + k2.2 = ms → ∀ (H : Heap) (locs : List Loc) (ls : Array Slot), va_P (dC, dI) classes (TW cI u o i a g) H → va_D A (TW cI u o i a g) → va_S A s.heap H locs → lv_has ls 5 [(0, .ref ((u 11))), (1, .int v1), (2, .int v2)] → W p l e ({ frames := 4, cells := mc, slots := ms, locals := 107 } : Room) s m args below meth c H locs kc ks (MQ below (va_Qi (xRg r2) (xBg dC dI cI u g2 i2 a2 A) A) args s mc ms A) (F0 m 33 ls [.int s0]) := by
  have htt : ∀ w ∈ tw_T, w.before _ s = true := fun w h => hts w (List.mem_cons_of_mem _ h)
  intro o kc ks hkc hks H locs ls hP hD hS hl
  rw [m_Machine_map_b33] at hm
  refine lv_istore_n (lv' := [(3, .int s0), (0, .ref ((u 11))), (1, .int v1), (2, .int v2)]) hx hb d_Machine_map_33 rfl hl (by decide) rfl (fun ls hl => ?_)
  refine lv_iload_n hx hb d_Machine_map_34 rfl (lv_at hl 0 rfl) ?_
  refine lv_if_eq (tgt := 50) hx hb d_Machine_map_35 (by decide) (fun c_1 => ?_) (fun c_1 => ?_)
  · replace hm := if_t c_1 hm
    refine lv_aload_n hx hb d_Machine_map_50 rfl (lv_at hl 1 rfl) ?_
    refine lv_bipush (v := 10) hx hb d_Machine_map_51 (by decide) ?_
    refine lv_iload_n hx hb d_Machine_map_53 rfl (lv_at hl 3 rfl) ?_
    refine lv_ldc (v := (-2147483648)) hx hb hown (htt _ lk_Machine_114) d_Machine_map_54 ?_
    refine lv_iload_n hx hb d_Machine_map_56 rfl (lv_at hl 2 rfl) ?_
    obtain ⟨i_3, a_4, r_5, h_2, hm⟩ := ob_some hm
    have hFc := x_free hD hS hA
    refine xg_calli (va_runV (As := [.int 10, .int v2, .int ((-2147483648)), .int v1]) (rest := []) ⟨hx, hb, hml, hown, hts⟩ (x_Machine_open l dC dI cI adK adV adA u o g H.size n h_2) (cwV 4 hts (tw_GV tw_cons cw_Machine_open lk_Machine_353 in_Machine_open sel_Machine_open ini_Machine) rfl rfl rfl ⟨rfl, hd_Machine_open⟩ ⟨Nat.le_of_ble_eq_true rfl, Nat.le_of_ble_eq_true rfl⟩) (xpV hK hP hD hS hE hFc xo_11 rfl) rfl rfl hl.1 rfl (lv_room (Nat.le_of_ble_eq_true rfl)) d_Machine_map_57 ⟨show kc + 0 ≤ mc by omega, show ks + 0 ≤ ms by omega⟩) hS (fun q _ h => hFc q h) hFc (fun kc_6 ks_7 r9 u9 t9 H locs ekc eks ht hvm e9 hB hz1 hk1 hS => ?_)
    replace hkc : kc_6 + k2.1 = mc := by omega
    replace hks : ks_7 + k2.2 = ms := by omega
    clear ekc eks
    have e9 : r_5 = r9 := e9
    subst e9
    obtain ⟨hP, hD⟩ := x_aft hB ht hFc
    clear hFc hk1 hz1 hvm hB ht
    exact lb_Machine_map_60 l dC dI cI adK adV adA u n hx hb hml hown hts hK hE hA hr hlocks _ _ _ _ _ hm o kc_6 ks_7 hkc hks _ _ _ hP hD hS (lv_sub hl [1] rfl)
  · replace hm := if_f c_1 hm
    refine lv_aload_n hx hb d_Machine_map_38 rfl (lv_at hl 1 rfl) ?_
    refine va_get (D := (dC, dI)) (ci := 11) (v := .ref ((u 1))) (C := R_Machine) (T := F_Machine) (N := 9) hx hb htt iw_Machine hown hK hP 11 xo_11 rfl 0 (Nat.le_of_ble_eq_true rfl) (htt _ lk_Machine_15) (fun _ h9 => h9) xg_11_0 d_Machine_map_39 ?_
    refine lv_iconst (v := 0) hx hb d_Machine_map_42 (by decide) ?_
    refine lv_iconst (v := 1) hx hb d_Machine_map_43 (by decide) ?_
    obtain ⟨i_9, a_10, g_11, k_12, r_13, k_14, h_8, hm, e7, e8⟩ := obG_some hm
    have hFc := x_free hD hS hA
    refine xg_calli (va_runV (As := [.int 0, .int 1]) (rest := []) ⟨hx, hb, hml, hown, hts⟩ (x_Heap_newList l dC dI cI adK adV adA u o g H.size n h_8) (cwV 2 hts (tw_GV tw_cons cw_Heap_newList lk_Machine_392 in_Heap_newList sel_Heap_newList ini_Heap) rfl rfl rfl ⟨rfl, hd_Heap_newList⟩ ⟨Nat.le_of_ble_eq_true rfl, Nat.le_of_ble_eq_true rfl⟩) (xpV hK hP hD hS hE hFc xo_1 rfl) rfl rfl hl.1 rfl (lv_room (Nat.le_of_ble_eq_true rfl)) d_Machine_map_44 ⟨show kc + k_12.1 ≤ mc by omega, show ks + k_12.2 ≤ ms by omega⟩) hS (fun q _ h => hFc q h) hFc (fun kc_16 ks_17 r9 o_15 t9 H locs ekc eks ht hvm e9 hB hz1 hk1 hS => ?_)
    replace hkc : kc_16 + k_14.1 = mc := by omega
    replace hks : ks_17 + k_14.2 = ms := by omega
    clear e7 e8
    clear ekc eks
    have e9 : r_13 = r9 := e9
    subst e9
    obtain ⟨hP, hD⟩ := x_aftg hB ht hFc
    clear hFc hk1 hz1 hvm hB ht
    refine lv_goto (tgt := 60) hx hb d_Machine_map_47 (by decide) ?_
    exact lb_Machine_map_60 l dC dI cI adK adV adA u n hx hb hml hown hts hK hE hA hr hlocks _ _ _ _ _ hm o_15 kc_16 ks_17 hkc hks _ _ _ hP hD hS (lv_sub hl [1] rfl)
def m_Machine_map (n : Nat) (g : Nat → Nat) (i : Nat → Int32) (a : Nat → Nat → Int32) (v1 : Int32) (v2 : Int32) : Option ((Nat → Int32) × (Nat → Nat → Int32) × (Nat → Nat) × (Nat × Nat) × Int32) := if ((i 38)) < ((30000 : Int32)) then ob0 (m_Heap_count n g i a v1) (fun r_3 => if r_3 = ((0 : Int32)) then m_Machine_map_b33 n i a g v1 v2 (1 : Int32) else m_Machine_map_b33 n i a g v1 v2 (0 : Int32)) else some (i, a, g, (0, 0), (-2147483640))
set_option maxHeartbeats 4000000 in
set_option maxRecDepth 100000 in
theorem x_Machine_map (l : Launch) (dC : Nat → ClassId) (dI : Nat → Nat → Nat) (cI : ClassId) (adK adV adA u o g : Nat → Nat) (sz : Nat) (n : Nat) {i : Nat → Int32} {a : Nat → Nat → Int32} {v1 : Int32} {v2 : Int32} {i2 : Nat → Int32} {a2 : Nat → Nat → Int32} {g2 : Nat → Nat} {k2 : Nat × Nat} {r2 : Int32} (hm : m_Machine_map n g i a v1 v2 = some (i2, a2, g2, k2, r2)) : Met l y_Machine_map w_Machine_map ({ frames := 4, cells := k2.1, slots := k2.2, locals := 107 } : Room) (va_Pc [.ref ((u 11)), .int v1, .int v2] (xE dC dI cI adK adV adA u o g i a sz)) (va_Qi (xRg r2) (xBg dC dI cI u g2 i2 a2 (va_A (TW cI u o i a g) sz)) (va_A (TW cI u o i a g) sz)) k2.1 k2.2 ((va_A (TW cI u o i a g) sz)) := by
  refine Met.ofW (cc := b_Machine_map) (maxL := 5) (ret := (some .int)) (by decide) rfl ?_
  intro p e s m args below meth c s₁ B hml hv
  obtain ⟨rfl, hsz, hP, hK, hE, hD0⟩ := hv
  have hx := B.exec
  have hb := B.bytes
  have hr := B.returns
  have hts := atoms_spec (ws := w_Machine_map) B.pre
  have htt : ∀ w ∈ tw_T, w.before _ s = true := fun w h => hts w (List.mem_cons_of_mem _ h)
  have hown : s.vm.findClass R_Machine = some m.cls := findClass_of_methodNamed B.named
  have hlocks := B.notSynchronized
  subst hsz
  have hD := hD0.self (sz := s.heap.size)
  generalize hAe : (va_A (TW cI u o i a g) s.heap.size) = A at hD hE ⊢
  have hA : ∀ q : Nat, s.heap.size ≤ q → A q := fun q h => by rw [← hAe]; exact Or.inr h
  have hS : va_S A s.heap s.heap [] := va_S.rf
  obtain ⟨mc, ms, emc, ems⟩ : ∃ mc ms : Nat, k2.1 = mc ∧ k2.2 = ms := ⟨_, _, rfl, rfl⟩
  have hkc : 0 + k2.1 = mc := by rw [Nat.zero_add]; exact emc
  have hks : 0 + k2.2 = ms := by rw [Nat.zero_add]; exact ems
  rw [emc, ems]
  clear emc ems
  have hl := lv_entry ([.ref ((u 11)), .int v1, .int v2]) (n := 5) (Nat.le_of_ble_eq_true rfl)
  rw [lg_entry_eq]
  generalize (lg_sl ([.ref ((u 11)), .int v1, .int v2]) ++ List.replicate (5 - (lg_sl ([.ref ((u 11)), .int v1, .int v2])).length) Slot.unset).toArray = ls at hl ⊢
  have hl : lv_has ls 5 [(0, .ref ((u 11))), (1, .int v1), (2, .int v2)] := hl
  rw [m_Machine_map] at hm
  refine lv_aload_n hx hb d_Machine_map_0 rfl (lv_at hl 0 rfl) ?_
  refine va_get (D := (dC, dI)) (ci := 11) (v := .ref ((u 8))) (C := R_Machine) (T := F_Machine) (N := 9) hx hb htt iw_Machine hown hK hP 11 xo_11 rfl 1 (Nat.le_of_ble_eq_true rfl) (htt _ lk_Machine_18) (fun _ h9 => h9) xg_11_1 d_Machine_map_1 ?_
  refine va_get (D := (dC, dI)) (ci := 8) (v := .int (i 38)) (C := R_Line) (T := F_Line) (N := 18) hx hb htt iw_Line hown hK hP 8 xo_8 rfl 4 (Nat.le_of_ble_eq_true rfl) (htt _ lk_Machine_293) (fun _ h9 => h9) xg_8_4 d_Machine_map_4 ?_
  refine lv_sipush (v := 30000) hx hb d_Machine_map_7 (by decide) ?_
  refine lv_icmp_lt (tgt := 17) hx hb d_Machine_map_10 (by decide) (fun c_1 => ?_) (fun c_1 => ?_)
  · replace hm := if_t c_1 hm
    refine lv_aload_n hx hb d_Machine_map_17 rfl (lv_at hl 0 rfl) ?_
    refine va_get (D := (dC, dI)) (ci := 11) (v := .ref ((u 1))) (C := R_Machine) (T := F_Machine) (N := 9) hx hb htt iw_Machine hown hK hP 11 xo_11 rfl 0 (Nat.le_of_ble_eq_true rfl) (htt _ lk_Machine_15) (fun _ h9 => h9) xg_11_0 d_Machine_map_18 ?_
    refine lv_iload_n hx hb d_Machine_map_21 rfl (lv_at hl 1 rfl) ?_
    obtain ⟨r_3, h_2, hm⟩ := ob0_some hm
    have hFc := x_free0 hS hA
    refine xg_calli (va_runV (As := [.int v1]) (rest := []) ⟨hx, hb, hml, hown, hts⟩ (x_Heap_count l dC dI cI adK adV adA u o g s.heap.size n h_2) (cwV 1 hts (tw_GV tw_cons cw_Heap_count lk_Machine_221 in_Heap_count sel_Heap_count ini_Heap) rfl rfl rfl ⟨rfl, hd_Heap_count⟩ ⟨Nat.le_of_ble_eq_true rfl, Nat.le_of_ble_eq_true rfl⟩) (xpVr hK hP hS hE hFc xo_1 rfl) rfl rfl hl.1 rfl (lv_room (Nat.le_of_ble_eq_true rfl)) d_Machine_map_22 ⟨show 0 + 0 ≤ mc by omega, show 0 + 0 ≤ ms by omega⟩) hS (fun q _ h => hFc q h) hFc (fun kc_4 ks_5 r9 u9 t9 H locs ekc eks ht hvm e9 hB hz1 hk1 hS => ?_)
    replace hkc : kc_4 + k2.1 = mc := by omega
    replace hks : ks_5 + k2.2 = ms := by omega
    clear ekc eks
    have e9 : r_3 = r9 := e9
    subst e9
    replace hP := x_keep hP hk1
    clear hFc hk1 hz1 hvm hB ht
    refine lv_if_ne (tgt := 32) hx hb d_Machine_map_25 (by decide) (fun c_6 => ?_) (fun c_6 => ?_)
    · replace hm := if_f c_6 hm
      refine lv_iconst (v := 0) hx hb d_Machine_map_32 (by decide) ?_
      exact lb_Machine_map_33 l dC dI cI adK adV adA u n hx hb hml hown hts hK hE hA hr hlocks _ _ _ _ _ _ _ hm o kc_4 ks_5 hkc hks _ _ _ hP hD hS (lv_sub hl [0, 1, 2] rfl)
    · replace hm := if_t c_6 hm
      refine lv_iconst (v := 1) hx hb d_Machine_map_28 (by decide) ?_
      refine lv_goto (tgt := 33) hx hb d_Machine_map_29 (by decide) ?_
      exact lb_Machine_map_33 l dC dI cI adK adV adA u n hx hb hml hown hts hK hE hA hr hlocks _ _ _ _ _ _ _ hm o kc_4 ks_5 hkc hks _ _ _ hP hD hS (lv_sub hl [0, 1, 2] rfl)
  · replace hm := if_f c_1 hm
    refine lv_ldcw (v := (-2147483640)) hx hb hown (htt _ lk_Machine_296) d_Machine_map_13 ?_
    obtain ⟨e1, e2, e4, e5, e6, e3⟩ := re5 hm
    obtain ⟨hP, hD⟩ := x_eqg e1 e2 e4 hP hD
    refine W.widen (k := mc) (n := ms) (show 0 ≤ mc by omega) (show 0 ≤ ms by omega) ?_
    exact W.iret hx hb hr (fun t9 ht hW => ⟨⟨_, o, rfl, e3.symm, by rw [ht]; exact hP, hD⟩, hS.F ht⟩) hS.2.2 d_Machine_map_16

def m_Machine_ask (n : Nat) (g : Nat → Nat) (i : Nat → Int32) (a : Nat → Nat → Int32) (v1 : Int32) (v2 : Int32) : Option ((Nat → Int32) × (Nat → Nat → Int32) × Int32) := ob0 (m_Turtles_exists n v1) (fun r_2 => if r_2 = ((0 : Int32)) then some (i, a, (-2147483645)) else ob (m_Machine_open n g i a (7 : Int32) v2 (i 17) (-2147483648 : Int32)) (fun i_5 a_6 r_7 => if r_7 = ((-2147483584 : Int32)) then ob (m_Turtles_mean n g i_5 a_6 v1) (fun i_10 a_11 r_12 => some (i_10, a_11, r_7)) else some (i_5, a_6, r_7)))
set_option maxHeartbeats 4000000 in
set_option maxRecDepth 100000 in
theorem x_Machine_ask (l : Launch) (dC : Nat → ClassId) (dI : Nat → Nat → Nat) (cI : ClassId) (adK adV adA u o g : Nat → Nat) (sz : Nat) (n : Nat) {i : Nat → Int32} {a : Nat → Nat → Int32} {v1 : Int32} {v2 : Int32} {i2 : Nat → Int32} {a2 : Nat → Nat → Int32} {r2 : Int32} (hm : m_Machine_ask n g i a v1 v2 = some (i2, a2, r2)) : Met l y_Machine_ask w_Machine_ask ({ frames := 2, cells := 0, slots := 0, locals := 47 } : Room) (va_Pc [.ref ((u 11)), .int v1, .int v2] (xE dC dI cI adK adV adA u o g i a sz)) (va_Qi (xR r2) (xB dC dI cI u o g i2 a2 (va_A (TW cI u o i a g) sz)) (va_A (TW cI u o i a g) sz)) 0 0 ((va_A (TW cI u o i a g) sz)) := by
  refine Met.ofW (cc := b_Machine_ask) (maxL := 4) (ret := (some .int)) (by decide) rfl ?_
  intro p e s m args below meth c s₁ B hml hv
  obtain ⟨rfl, hsz, hP, hK, hE, hD0⟩ := hv
  have hx := B.exec
  have hb := B.bytes
  have hr := B.returns
  have hts := atoms_spec (ws := w_Machine_ask) B.pre
  have htt : ∀ w ∈ tw_T, w.before _ s = true := fun w h => hts w (List.mem_cons_of_mem _ h)
  have hown : s.vm.findClass R_Machine = some m.cls := findClass_of_methodNamed B.named
  have hlocks := B.notSynchronized
  subst hsz
  have hD := hD0.self (sz := s.heap.size)
  generalize hAe : (va_A (TW cI u o i a g) s.heap.size) = A at hD hE ⊢
  have hA : ∀ q : Nat, s.heap.size ≤ q → A q := fun q h => by rw [← hAe]; exact Or.inr h
  have hS : va_S A s.heap s.heap [] := va_S.rf
  have hl := lv_entry ([.ref ((u 11)), .int v1, .int v2]) (n := 4) (Nat.le_of_ble_eq_true rfl)
  rw [lg_entry_eq]
  generalize (lg_sl ([.ref ((u 11)), .int v1, .int v2]) ++ List.replicate (4 - (lg_sl ([.ref ((u 11)), .int v1, .int v2])).length) Slot.unset).toArray = ls at hl ⊢
  have hl : lv_has ls 4 [(0, .ref ((u 11))), (1, .int v1), (2, .int v2)] := hl
  rw [m_Machine_ask] at hm
  refine lv_iload_n hx hb d_Machine_ask_0 rfl (lv_at hl 1 rfl) ?_
  obtain ⟨r_2, h_1, hm⟩ := ob0_some hm
  have hFc := x_free0 hS hA
  refine va_calli (va_runS (As := [.int v1]) (rest := []) ⟨hx, hb, hml, hown, hts⟩ (x_Turtles_exists l s.heap.size n h_1) (va_cwS 1 hts (tw_GS tw_cons cw_Turtles_exists lk_Machine_395 st_Turtles_exists ini_Turtles) rfl rfl rfl hd_Turtles_exists ⟨Nat.le_of_ble_eq_true rfl, Nat.le_of_ble_eq_true rfl⟩) xpS0 rfl rfl hl.1 rfl (lv_room (Nat.le_of_ble_eq_true rfl)) d_Machine_ask_1 ⟨Nat.le_of_ble_eq_true rfl, Nat.le_of_ble_eq_true rfl⟩) hS (fun q _ h => hFc q h) hFc (fun r9 u9 t9 H locs ht hvm e9 hB hz1 hk1 hS => ?_)
  have e9 : r_2 = r9 := e9
  subst e9
  replace hP := x_keep hP hk1
  clear hFc hk1 hz1 hvm hB ht
  refine lv_if_ne (tgt := 11) hx hb d_Machine_ask_4 (by decide) (fun c_3 => ?_) (fun c_3 => ?_)
  · replace hm := if_f c_3 hm
    refine lv_aload_n hx hb d_Machine_ask_11 rfl (lv_at hl 0 rfl) ?_
    refine lv_bipush (v := 7) hx hb d_Machine_ask_12 (by decide) ?_
    refine lv_iload_n hx hb d_Machine_ask_14 rfl (lv_at hl 2 rfl) ?_
    refine lv_aload_n hx hb d_Machine_ask_15 rfl (lv_at hl 0 rfl) ?_
    refine va_get (D := (dC, dI)) (ci := 11) (v := .ref ((u 5))) (C := R_Machine) (T := F_Machine) (N := 9) hx hb htt iw_Machine hown hK hP 11 xo_11 rfl 5 (Nat.le_of_ble_eq_true rfl) (htt _ lk_Machine_34) (fun _ h9 => h9) xg_11_5 d_Machine_ask_16 ?_
    refine va_get (D := (dC, dI)) (ci := 5) (v := .int (i 17)) (C := R_Turtles) (T := F_Turtles) (N := 8) hx hb htt iw_Turtles hown hK hP 5 xo_5 rfl 2 (Nat.le_of_ble_eq_true rfl) (htt _ lk_Machine_140) (fun _ h9 => h9) xg_5_2 d_Machine_ask_19 ?_
    refine lv_ldc (v := (-2147483648)) hx hb hown (htt _ lk_Machine_114) d_Machine_ask_22 ?_
    obtain ⟨i_5, a_6, r_7, h_4, hm⟩ := ob_some hm
    have hFc := x_free hD hS hA
    refine va_calli (va_runV (As := [.int 7, .int v2, .int (i 17), .int ((-2147483648))]) (rest := []) ⟨hx, hb, hml, hown, hts⟩ (x_Machine_open l dC dI cI adK adV adA u o g H.size n h_4) (cwV 4 hts (tw_GV tw_cons cw_Machine_open lk_Machine_353 in_Machine_open sel_Machine_open ini_Machine) rfl rfl rfl ⟨rfl, hd_Machine_open⟩ ⟨Nat.le_of_ble_eq_true rfl, Nat.le_of_ble_eq_true rfl⟩) (xpV hK hP hD hS hE hFc xo_11 rfl) rfl rfl hl.1 rfl (lv_room (Nat.le_of_ble_eq_true rfl)) d_Machine_ask_24 ⟨Nat.le_of_ble_eq_true rfl, Nat.le_of_ble_eq_true rfl⟩) hS (fun q _ h => hFc q h) hFc (fun r9 u9 t9 H locs ht hvm e9 hB hz1 hk1 hS => ?_)
    have e9 : r_7 = r9 := e9
    subst e9
    obtain ⟨hP, hD⟩ := x_aft hB ht hFc
    clear hFc hk1 hz1 hvm hB ht
    refine lv_istore_n (lv' := [(3, .int r_7), (0, .ref ((u 11))), (1, .int v1), (2, .int v2)]) hx hb d_Machine_ask_27 rfl hl (by decide) rfl (fun ls hl => ?_)
    refine lv_iload_n hx hb d_Machine_ask_28 rfl (lv_at hl 0 rfl) ?_
    refine lv_ldc (v := (-2147483584)) hx hb hown (htt _ lk_Machine_110) d_Machine_ask_29 ?_
    refine lv_icmp_ne (tgt := 43) hx hb d_Machine_ask_31 (by decide) (fun c_8 => ?_) (fun c_8 => ?_)
    · replace hm := if_f c_8 hm
      refine lv_iload_n hx hb d_Machine_ask_43 rfl (lv_at hl 0 rfl) ?_
      obtain ⟨e1i, e1a, e3⟩ := re3 hm
      obtain ⟨hP, hD⟩ := x_eq e1i e1a hP hD
      exact W.iret hx hb hr (fun t9 ht hW => ⟨⟨_, (), rfl, e3.symm, by rw [ht]; exact hP, hD⟩, hS.F ht⟩) hS.2.2 d_Machine_ask_44
    · replace hm := if_t c_8 hm
      refine lv_aload_n hx hb d_Machine_ask_34 rfl (lv_at hl 1 rfl) ?_
      refine va_get (D := (dC, dI)) (ci := 11) (v := .ref ((u 5))) (C := R_Machine) (T := F_Machine) (N := 9) hx hb htt iw_Machine hown hK hP 11 xo_11 rfl 5 (Nat.le_of_ble_eq_true rfl) (htt _ lk_Machine_34) (fun _ h9 => h9) xg_11_5 d_Machine_ask_35 ?_
      refine lv_iload_n hx hb d_Machine_ask_38 rfl (lv_at hl 2 rfl) ?_
      obtain ⟨i_10, a_11, r_12, h_9, hm⟩ := ob_some hm
      have hFc := x_free hD hS hA
      refine va_calli (va_runV (As := [.int v1]) (rest := []) ⟨hx, hb, hml, hown, hts⟩ (x_Turtles_mean l dC dI cI adK adV adA u o g H.size n h_9) (cwV 1 hts (tw_GV tw_cons cw_Turtles_mean lk_Machine_398 in_Turtles_mean sel_Turtles_mean ini_Turtles) rfl rfl rfl ⟨rfl, hd_Turtles_mean⟩ ⟨Nat.le_of_ble_eq_true rfl, Nat.le_of_ble_eq_true rfl⟩) (xpV hK hP hD hS hE hFc xo_5 rfl) rfl rfl hl.1 rfl (lv_room (Nat.le_of_ble_eq_true rfl)) d_Machine_ask_39 ⟨Nat.le_of_ble_eq_true rfl, Nat.le_of_ble_eq_true rfl⟩) hS (fun q _ h => hFc q h) hFc (fun r9 u9 t9 H locs ht hvm e9 hB hz1 hk1 hS => ?_)
      have e9 : r_12 = r9 := e9
      subst e9
      obtain ⟨hP, hD⟩ := x_aft hB ht hFc
      clear hFc hk1 hz1 hvm hB ht
      refine lv_pop hx hb d_Machine_ask_42 rfl ?_
      refine lv_iload_n hx hb d_Machine_ask_43 rfl (lv_at hl 0 rfl) ?_
      obtain ⟨e1i, e1a, e3⟩ := re3 hm
      obtain ⟨hP, hD⟩ := x_eq e1i e1a hP hD
      exact W.iret hx hb hr (fun t9 ht hW => ⟨⟨_, (), rfl, e3.symm, by rw [ht]; exact hP, hD⟩, hS.F ht⟩) hS.2.2 d_Machine_ask_44
  · replace hm := if_t c_3 hm
    refine lv_ldcw (v := (-2147483645)) hx hb hown (htt _ lk_Machine_276) d_Machine_ask_7 ?_
    obtain ⟨e1i, e1a, e3⟩ := re3 hm
    obtain ⟨hP, hD⟩ := x_eq e1i e1a hP hD
    exact W.iret hx hb hr (fun t9 ht hW => ⟨⟨_, (), rfl, e3.symm, by rw [ht]; exact hP, hD⟩, hS.F ht⟩) hS.2.2 d_Machine_ask_10

def m_World_turtle (n : Nat) (g : Nat → Nat) (i : Nat → Int32) (a : Nat → Nat → Int32) (v1 : Int32) (v2 : Int32) : Option (Int32) := ob0 (m_Turtles_exists n v1) (fun r_2 => if r_2 = ((0 : Int32)) then some ((-1)) else if v2 < ((0 : Int32)) then some ((-1)) else if v2 ≤ ((2 : Int32)) then ob0 (m_Turtles_part n g i a v1 (4 + v2)) (fun r_7 => if v2 = ((0 : Int32)) then some (30 * r_7) else some r_7) else some ((-1)))
set_option maxHeartbeats 4000000 in
set_option maxRecDepth 100000 in
theorem x_World_turtle (l : Launch) (dC : Nat → ClassId) (dI : Nat → Nat → Nat) (cI : ClassId) (adK adV adA u o g : Nat → Nat) (sz : Nat) (n : Nat) {i : Nat → Int32} {a : Nat → Nat → Int32} {v1 : Int32} {v2 : Int32} {r2 : Int32} (hm : m_World_turtle n g i a v1 v2 = some r2) : Met l y_World_turtle w_World_turtle ({ frames := 2, cells := 0, slots := 0, locals := 42 } : Room) (va_Pc [.ref ((u 0)), .int v1, .int v2] (xEr dC dI cI adK adV adA u o g i a sz)) (va_Qi (xR r2) xT (xN sz)) 0 0 (xN sz) := by
  refine Met.ofW (cc := b_World_turtle) (maxL := 4) (ret := (some .int)) (by decide) rfl ?_
  intro p e s m args below meth c s₁ B hml hv
  obtain ⟨rfl, hsz, hP, hK, hE⟩ := hv
  have hx := B.exec
  have hb := B.bytes
  have hr := B.returns
  have hts := atoms_spec (ws := w_World_turtle) B.pre
  have htt : ∀ w ∈ tw_T, w.before _ s = true := fun w h => hts w (List.mem_cons_of_mem _ h)
  have hown : s.vm.findClass R_World = some m.cls := findClass_of_methodNamed B.named
  have hlocks := B.notSynchronized
  subst hsz
  generalize hAe : xN s.heap.size = A at hE ⊢
  have hA : ∀ q : Nat, s.heap.size ≤ q → A q := fun q h => by rw [← hAe]; exact Or.inr h
  have hS : va_S A s.heap s.heap [] := va_S.rf
  have hl := lv_entry ([.ref ((u 0)), .int v1, .int v2]) (n := 4) (Nat.le_of_ble_eq_true rfl)
  rw [lg_entry_eq]
  generalize (lg_sl ([.ref ((u 0)), .int v1, .int v2]) ++ List.replicate (4 - (lg_sl ([.ref ((u 0)), .int v1, .int v2])).length) Slot.unset).toArray = ls at hl ⊢
  have hl : lv_has ls 4 [(0, .ref ((u 0))), (1, .int v1), (2, .int v2)] := hl
  rw [m_World_turtle] at hm
  refine lv_iload_n hx hb d_World_turtle_0 rfl (lv_at hl 1 rfl) ?_
  obtain ⟨r_2, h_1, hm⟩ := ob0_some hm
  have hFc := x_free0 hS hA
  refine va_calli (va_runS (As := [.int v1]) (rest := []) ⟨hx, hb, hml, hown, hts⟩ (x_Turtles_exists l s.heap.size n h_1) (va_cwS 1 hts (tw_GS tw_cons cw_Turtles_exists lk_World_186 st_Turtles_exists ini_Turtles) rfl rfl rfl hd_Turtles_exists ⟨Nat.le_of_ble_eq_true rfl, Nat.le_of_ble_eq_true rfl⟩) xpS0 rfl rfl hl.1 rfl (lv_room (Nat.le_of_ble_eq_true rfl)) d_World_turtle_1 ⟨Nat.le_of_ble_eq_true rfl, Nat.le_of_ble_eq_true rfl⟩) hS (fun q _ h => hFc q h) hFc (fun r9 u9 t9 H locs ht hvm e9 hB hz1 hk1 hS => ?_)
  have e9 : r_2 = r9 := e9
  subst e9
  replace hP := x_keep hP hk1
  clear hFc hk1 hz1 hvm hB ht
  refine lv_if_eq (tgt := 16) hx hb d_World_turtle_4 (by decide) (fun c_3 => ?_) (fun c_3 => ?_)
  · replace hm := if_t c_3 hm
    refine lv_iconst (v := -1) hx hb d_World_turtle_16 (by decide) ?_
    have e3 := re1 hm
    exact W.iret hx hb hr (fun t9 ht hW => ⟨⟨_, (), rfl, e3.symm, trivial⟩, hS.F ht⟩) hS.2.2 d_World_turtle_17
  · replace hm := if_f c_3 hm
    refine lv_iload_n hx hb d_World_turtle_7 rfl (lv_at hl 2 rfl) ?_
    refine lv_if_lt (tgt := 16) hx hb d_World_turtle_8 (by decide) (fun c_4 => ?_) (fun c_4 => ?_)
    · replace hm := if_t c_4 hm
      refine lv_iconst (v := -1) hx hb d_World_turtle_16 (by decide) ?_
      have e3 := re1 hm
      exact W.iret hx hb hr (fun t9 ht hW => ⟨⟨_, (), rfl, e3.symm, trivial⟩, hS.F ht⟩) hS.2.2 d_World_turtle_17
    · replace hm := if_f c_4 hm
      refine lv_iload_n hx hb d_World_turtle_11 rfl (lv_at hl 2 rfl) ?_
      refine lv_iconst (v := 2) hx hb d_World_turtle_12 (by decide) ?_
      refine lv_icmp_le (tgt := 18) hx hb d_World_turtle_13 (by decide) (fun c_5 => ?_) (fun c_5 => ?_)
      · replace hm := if_t c_5 hm
        refine lv_aload_n hx hb d_World_turtle_18 rfl (lv_at hl 0 rfl) ?_
        refine va_get (D := (dC, dI)) (ci := 0) (v := .ref ((u 5))) (C := R_World) (T := F_World) (N := 13) hx hb htt iw_World hown hK hP 0 xo_0 rfl 3 (Nat.le_of_ble_eq_true rfl) (htt _ lk_World_40) (fun _ h9 => h9) xg_0_3 d_World_turtle_19 ?_
        refine lv_iload_n hx hb d_World_turtle_22 rfl (lv_at hl 1 rfl) ?_
        refine lv_iconst (v := 4) hx hb d_World_turtle_23 (by decide) ?_
        refine lv_iload_n hx hb d_World_turtle_24 rfl (lv_at hl 2 rfl) ?_
        refine lv_iadd hx hb d_World_turtle_25 ?_
        obtain ⟨r_7, h_6, hm⟩ := ob0_some hm
        have hFc := x_free0 hS hA
        refine va_calli (va_runV (As := [.int v1, .int (4 + v2)]) (rest := []) ⟨hx, hb, hml, hown, hts⟩ (x_Turtles_part l dC dI cI adK adV adA u o g H.size n h_6) (cwV 2 hts (tw_GV tw_cons cw_Turtles_part lk_World_192 in_Turtles_part sel_Turtles_part ini_Turtles) rfl rfl rfl ⟨rfl, hd_Turtles_part⟩ ⟨Nat.le_of_ble_eq_true rfl, Nat.le_of_ble_eq_true rfl⟩) (xpVr hK hP hS hE hFc xo_5 rfl) rfl rfl hl.1 rfl (lv_room (Nat.le_of_ble_eq_true rfl)) d_World_turtle_26 ⟨Nat.le_of_ble_eq_true rfl, Nat.le_of_ble_eq_true rfl⟩) hS (fun q _ h => hFc q h) hFc (fun r9 u9 t9 H locs ht hvm e9 hB hz1 hk1 hS => ?_)
        have e9 : r_7 = r9 := e9
        subst e9
        replace hP := x_keep hP hk1
        clear hFc hk1 hz1 hvm hB ht
        refine lv_istore_n (lv' := [(3, .int r_7), (0, .ref ((u 0))), (1, .int v1), (2, .int v2)]) hx hb d_World_turtle_29 rfl hl (by decide) rfl (fun ls hl => ?_)
        refine lv_iload_n hx hb d_World_turtle_30 rfl (lv_at hl 3 rfl) ?_
        refine lv_if_ne (tgt := 41) hx hb d_World_turtle_31 (by decide) (fun c_8 => ?_) (fun c_8 => ?_)
        · replace hm := if_f c_8 hm
          refine lv_iload_n hx hb d_World_turtle_41 rfl (lv_at hl 0 rfl) ?_
          have e3 := re1 hm
          exact W.iret hx hb hr (fun t9 ht hW => ⟨⟨_, (), rfl, e3.symm, trivial⟩, hS.F ht⟩) hS.2.2 d_World_turtle_42
        · replace hm := if_t c_8 hm
          refine lv_bipush (v := 30) hx hb d_World_turtle_34 (by decide) ?_
          refine lv_iload_n hx hb d_World_turtle_36 rfl (lv_at hl 0 rfl) ?_
          refine lv_imul hx hb d_World_turtle_37 ?_
          refine lv_goto (tgt := 42) hx hb d_World_turtle_38 (by decide) ?_
          have e3 := re1 hm
          exact W.iret hx hb hr (fun t9 ht hW => ⟨⟨_, (), rfl, e3.symm, trivial⟩, hS.F ht⟩) hS.2.2 d_World_turtle_42
      · replace hm := if_f c_5 hm
        refine lv_iconst (v := -1) hx hb d_World_turtle_16 (by decide) ?_
        have e3 := re1 hm
        exact W.iret hx hb hr (fun t9 ht hW => ⟨⟨_, (), rfl, e3.symm, trivial⟩, hS.F ht⟩) hS.2.2 d_World_turtle_17

def m_World_dot (n : Nat) (g : Nat → Nat) (i : Nat → Int32) (a : Nat → Nat → Int32) (v1 : Int32) (v2 : Int32) : Option (Int32) := ob0 (m_Turtles_colourAt n g i a v1 v2) (fun r_2 => some r_2)
set_option maxHeartbeats 4000000 in
set_option maxRecDepth 100000 in
theorem x_World_dot (l : Launch) (dC : Nat → ClassId) (dI : Nat → Nat → Nat) (cI : ClassId) (adK adV adA u o g : Nat → Nat) (sz : Nat) (n : Nat) {i : Nat → Int32} {a : Nat → Nat → Int32} {v1 : Int32} {v2 : Int32} {r2 : Int32} (hm : m_World_dot n g i a v1 v2 = some r2) : Met l y_World_dot w_World_dot ({ frames := 2, cells := 0, slots := 0, locals := 45 } : Room) (va_Pc [.ref ((u 0)), .int v1, .int v2] (xEr dC dI cI adK adV adA u o g i a sz)) (va_Qi (xR r2) xT (xN sz)) 0 0 (xN sz) := by
  refine Met.ofW (cc := b_World_dot) (maxL := 3) (ret := (some .int)) (by decide) rfl ?_
  intro p e s m args below meth c s₁ B hml hv
  obtain ⟨rfl, hsz, hP, hK, hE⟩ := hv
  have hx := B.exec
  have hb := B.bytes
  have hr := B.returns
  have hts := atoms_spec (ws := w_World_dot) B.pre
  have htt : ∀ w ∈ tw_T, w.before _ s = true := fun w h => hts w (List.mem_cons_of_mem _ h)
  have hown : s.vm.findClass R_World = some m.cls := findClass_of_methodNamed B.named
  have hlocks := B.notSynchronized
  subst hsz
  generalize hAe : xN s.heap.size = A at hE ⊢
  have hA : ∀ q : Nat, s.heap.size ≤ q → A q := fun q h => by rw [← hAe]; exact Or.inr h
  have hS : va_S A s.heap s.heap [] := va_S.rf
  have hl := lv_entry ([.ref ((u 0)), .int v1, .int v2]) (n := 3) (Nat.le_of_ble_eq_true rfl)
  rw [lg_entry_eq]
  generalize (lg_sl ([.ref ((u 0)), .int v1, .int v2]) ++ List.replicate (3 - (lg_sl ([.ref ((u 0)), .int v1, .int v2])).length) Slot.unset).toArray = ls at hl ⊢
  have hl : lv_has ls 3 [(0, .ref ((u 0))), (1, .int v1), (2, .int v2)] := hl
  rw [m_World_dot] at hm
  refine lv_aload_n hx hb d_World_dot_0 rfl (lv_at hl 0 rfl) ?_
  refine va_get (D := (dC, dI)) (ci := 0) (v := .ref ((u 5))) (C := R_World) (T := F_World) (N := 13) hx hb htt iw_World hown hK hP 0 xo_0 rfl 3 (Nat.le_of_ble_eq_true rfl) (htt _ lk_World_40) (fun _ h9 => h9) xg_0_3 d_World_dot_1 ?_
  refine lv_iload_n hx hb d_World_dot_4 rfl (lv_at hl 1 rfl) ?_
  refine lv_iload_n hx hb d_World_dot_5 rfl (lv_at hl 2 rfl) ?_
  obtain ⟨r_2, h_1, hm⟩ := ob0_some hm
  have hFc := x_free0 hS hA
  refine va_calli (va_runV (As := [.int v1, .int v2]) (rest := []) ⟨hx, hb, hml, hown, hts⟩ (x_Turtles_colourAt l dC dI cI adK adV adA u o g s.heap.size n h_1) (cwV 2 hts (tw_GV tw_cons cw_Turtles_colourAt lk_World_200 in_Turtles_colourAt sel_Turtles_colourAt ini_Turtles) rfl rfl rfl ⟨rfl, hd_Turtles_colourAt⟩ ⟨Nat.le_of_ble_eq_true rfl, Nat.le_of_ble_eq_true rfl⟩) (xpVr hK hP hS hE hFc xo_5 rfl) rfl rfl hl.1 rfl (lv_room (Nat.le_of_ble_eq_true rfl)) d_World_dot_6 ⟨Nat.le_of_ble_eq_true rfl, Nat.le_of_ble_eq_true rfl⟩) hS (fun q _ h => hFc q h) hFc (fun r9 u9 t9 H locs ht hvm e9 hB hz1 hk1 hS => ?_)
  have e9 : r_2 = r9 := e9
  subst e9
  replace hP := x_keep hP hk1
  clear hFc hk1 hz1 hvm hB ht
  have e3 := re1 hm
  exact W.iret hx hb hr (fun t9 ht hW => ⟨⟨_, (), rfl, e3.symm, trivial⟩, hS.F ht⟩) hS.2.2 d_World_dot_9

def m_World_name (n : Nat) (g : Nat → Nat) (i : Nat → Int32) (a : Nat → Nat → Int32) (v1 : Int32) (v2 : Int32) : Option (Int32) := ob0 (m_Names_globalName n g i a v1) (fun r_2 => ob0 (m_Heap_letter n g i a r_2 v2) (fun r_4 => some r_4))
set_option maxHeartbeats 4000000 in
set_option maxRecDepth 100000 in
theorem x_World_name (l : Launch) (dC : Nat → ClassId) (dI : Nat → Nat → Nat) (cI : ClassId) (adK adV adA u o g : Nat → Nat) (sz : Nat) (n : Nat) {i : Nat → Int32} {a : Nat → Nat → Int32} {v1 : Int32} {v2 : Int32} {r2 : Int32} (hm : m_World_name n g i a v1 v2 = some r2) : Met l y_World_name w_World_name ({ frames := 2, cells := 0, slots := 0, locals := 46 } : Room) (va_Pc [.ref ((u 0)), .int v1, .int v2] (xEr dC dI cI adK adV adA u o g i a sz)) (va_Qi (xR r2) xT (xN sz)) 0 0 (xN sz) := by
  refine Met.ofW (cc := b_World_name) (maxL := 3) (ret := (some .int)) (by decide) rfl ?_
  intro p e s m args below meth c s₁ B hml hv
  obtain ⟨rfl, hsz, hP, hK, hE⟩ := hv
  have hx := B.exec
  have hb := B.bytes
  have hr := B.returns
  have hts := atoms_spec (ws := w_World_name) B.pre
  have htt : ∀ w ∈ tw_T, w.before _ s = true := fun w h => hts w (List.mem_cons_of_mem _ h)
  have hown : s.vm.findClass R_World = some m.cls := findClass_of_methodNamed B.named
  have hlocks := B.notSynchronized
  subst hsz
  generalize hAe : xN s.heap.size = A at hE ⊢
  have hA : ∀ q : Nat, s.heap.size ≤ q → A q := fun q h => by rw [← hAe]; exact Or.inr h
  have hS : va_S A s.heap s.heap [] := va_S.rf
  have hl := lv_entry ([.ref ((u 0)), .int v1, .int v2]) (n := 3) (Nat.le_of_ble_eq_true rfl)
  rw [lg_entry_eq]
  generalize (lg_sl ([.ref ((u 0)), .int v1, .int v2]) ++ List.replicate (3 - (lg_sl ([.ref ((u 0)), .int v1, .int v2])).length) Slot.unset).toArray = ls at hl ⊢
  have hl : lv_has ls 3 [(0, .ref ((u 0))), (1, .int v1), (2, .int v2)] := hl
  rw [m_World_name] at hm
  refine lv_aload_n hx hb d_World_name_0 rfl (lv_at hl 0 rfl) ?_
  refine va_get (D := (dC, dI)) (ci := 0) (v := .ref ((u 1))) (C := R_World) (T := F_World) (N := 13) hx hb htt iw_World hown hK hP 0 xo_0 rfl 0 (Nat.le_of_ble_eq_true rfl) (htt _ lk_World_17) (fun _ h9 => h9) xg_0_0 d_World_name_1 ?_
  refine lv_aload_n hx hb d_World_name_4 rfl (lv_at hl 0 rfl) ?_
  refine va_get (D := (dC, dI)) (ci := 0) (v := .ref ((u 3))) (C := R_World) (T := F_World) (N := 13) hx hb htt iw_World hown hK hP 0 xo_0 rfl 1 (Nat.le_of_ble_eq_true rfl) (htt _ lk_World_26) (fun _ h9 => h9) xg_0_1 d_World_name_5 ?_
  refine lv_iload_n hx hb d_World_name_8 rfl (lv_at hl 1 rfl) ?_
  obtain ⟨r_2, h_1, hm⟩ := ob0_some hm
  have hFc := x_free0 hS hA
  refine va_calli (va_runV (As := [.int v1]) (rest := [.ref ((u 1))]) ⟨hx, hb, hml, hown, hts⟩ (x_Names_globalName l dC dI cI adK adV adA u o g s.heap.size n h_1) (cwV 1 hts (tw_GV tw_cons cw_Names_globalName lk_World_206 in_Names_globalName sel_Names_globalName ini_Names) rfl rfl rfl ⟨rfl, hd_Names_globalName⟩ ⟨Nat.le_of_ble_eq_true rfl, Nat.le_of_ble_eq_true rfl⟩) (xpVr hK hP hS hE hFc xo_3 rfl) rfl rfl hl.1 rfl (lv_room (Nat.le_of_ble_eq_true rfl)) d_World_name_9 ⟨Nat.le_of_ble_eq_true rfl, Nat.le_of_ble_eq_true rfl⟩) hS (fun q _ h => hFc q h) hFc (fun r9 u9 t9 H locs ht hvm e9 hB hz1 hk1 hS => ?_)
  have e9 : r_2 = r9 := e9
  subst e9
  replace hP := x_keep hP hk1
  clear hFc hk1 hz1 hvm hB ht
  refine lv_iload_n hx hb d_World_name_12 rfl (lv_at hl 2 rfl) ?_
  obtain ⟨r_4, h_3, hm⟩ := ob0_some hm
  have hFc := x_free0 hS hA
  refine va_calli (va_runV (As := [.int r_2, .int v2]) (rest := []) ⟨hx, hb, hml, hown, hts⟩ (x_Heap_letter l dC dI cI adK adV adA u o g H.size n h_3) (cwV 2 hts (tw_GV tw_cons cw_Heap_letter lk_World_209 in_Heap_letter sel_Heap_letter ini_Heap) rfl rfl rfl ⟨rfl, hd_Heap_letter⟩ ⟨Nat.le_of_ble_eq_true rfl, Nat.le_of_ble_eq_true rfl⟩) (xpVr hK hP hS hE hFc xo_1 rfl) rfl rfl hl.1 rfl (lv_room (Nat.le_of_ble_eq_true rfl)) d_World_name_13 ⟨Nat.le_of_ble_eq_true rfl, Nat.le_of_ble_eq_true rfl⟩) hS (fun q _ h => hFc q h) hFc (fun r9 u9 t9 H locs ht hvm e9 hB hz1 hk1 hS => ?_)
  have e9 : r_4 = r9 := e9
  subst e9
  replace hP := x_keep hP hk1
  clear hFc hk1 hz1 hvm hB ht
  have e3 := re1 hm
  exact W.iret hx hb hr (fun t9 ht hW => ⟨⟨_, (), rfl, e3.symm, trivial⟩, hS.F ht⟩) hS.2.2 d_World_name_16

def m_World_procedure (n : Nat) (g : Nat → Nat) (i : Nat → Int32) (a : Nat → Nat → Int32) (v1 : Int32) (v2 : Int32) : Option (Int32) := if v1 < ((0 : Int32)) then some ((-1)) else if ((i 15)) ≤ v1 then some ((-1)) else if ((0 : Int32)) ≤ v2 then if v2 = ((0 : Int32)) then ck v1 40 (ob0 (m_Heap_count n g i a (a 16 v1.toNatClampNeg)) (fun r_14 => some r_14)) else if v2 = ((1 : Int32)) then ck v1 40 (ob0 (m_Heap_count n g i a (a 17 v1.toNatClampNeg)) (fun r_11 => some r_11)) else ck v1 40 (ob0 (m_Heap_letter n g i a (a 15 v1.toNatClampNeg) (v2 - 2)) (fun r_8 => some r_8)) else some ((-1))
set_option maxHeartbeats 4000000 in
set_option maxRecDepth 100000 in
theorem x_World_procedure (l : Launch) (dC : Nat → ClassId) (dI : Nat → Nat → Nat) (cI : ClassId) (adK adV adA u o g : Nat → Nat) (sz : Nat) (n : Nat) {i : Nat → Int32} {a : Nat → Nat → Int32} {v1 : Int32} {v2 : Int32} {r2 : Int32} (hm : m_World_procedure n g i a v1 v2 = some r2) : Met l y_World_procedure w_World_procedure ({ frames := 2, cells := 0, slots := 0, locals := 46 } : Room) (va_Pc [.ref ((u 0)), .int v1, .int v2] (xEr dC dI cI adK adV adA u o g i a sz)) (va_Qi (xR r2) xT (xN sz)) 0 0 (xN sz) := by
  refine Met.ofW (cc := b_World_procedure) (maxL := 3) (ret := (some .int)) (by decide) rfl ?_
  intro p e s m args below meth c s₁ B hml hv
  obtain ⟨rfl, hsz, hP, hK, hE⟩ := hv
  have hx := B.exec
  have hb := B.bytes
  have hr := B.returns
  have hts := atoms_spec (ws := w_World_procedure) B.pre
  have htt : ∀ w ∈ tw_T, w.before _ s = true := fun w h => hts w (List.mem_cons_of_mem _ h)
  have hown : s.vm.findClass R_World = some m.cls := findClass_of_methodNamed B.named
  have hlocks := B.notSynchronized
  subst hsz
  generalize hAe : xN s.heap.size = A at hE ⊢
  have hA : ∀ q : Nat, s.heap.size ≤ q → A q := fun q h => by rw [← hAe]; exact Or.inr h
  have hS : va_S A s.heap s.heap [] := va_S.rf
  have hl := lv_entry ([.ref ((u 0)), .int v1, .int v2]) (n := 3) (Nat.le_of_ble_eq_true rfl)
  rw [lg_entry_eq]
  generalize (lg_sl ([.ref ((u 0)), .int v1, .int v2]) ++ List.replicate (3 - (lg_sl ([.ref ((u 0)), .int v1, .int v2])).length) Slot.unset).toArray = ls at hl ⊢
  have hl : lv_has ls 3 [(0, .ref ((u 0))), (1, .int v1), (2, .int v2)] := hl
  rw [m_World_procedure] at hm
  refine lv_iload_n hx hb d_World_procedure_0 rfl (lv_at hl 1 rfl) ?_
  refine lv_if_lt (tgt := 19) hx hb d_World_procedure_1 (by decide) (fun c_1 => ?_) (fun c_1 => ?_)
  · replace hm := if_t c_1 hm
    refine lv_iconst (v := -1) hx hb d_World_procedure_19 (by decide) ?_
    have e3 := re1 hm
    exact W.iret hx hb hr (fun t9 ht hW => ⟨⟨_, (), rfl, e3.symm, trivial⟩, hS.F ht⟩) hS.2.2 d_World_procedure_20
  · replace hm := if_f c_1 hm
    refine lv_iload_n hx hb d_World_procedure_4 rfl (lv_at hl 1 rfl) ?_
    refine lv_aload_n hx hb d_World_procedure_5 rfl (lv_at hl 0 rfl) ?_
    refine va_get (D := (dC, dI)) (ci := 0) (v := .ref ((u 4))) (C := R_World) (T := F_World) (N := 13) hx hb htt iw_World hown hK hP 0 xo_0 rfl 2 (Nat.le_of_ble_eq_true rfl) (htt _ lk_World_33) (fun _ h9 => h9) xg_0_2 d_World_procedure_6 ?_
    refine va_get (D := (dC, dI)) (ci := 4) (v := .int (i 15)) (C := R_Procedures) (T := F_Procedures) (N := 8) hx hb htt iw_Procedures hown hK hP 4 xo_4 rfl 4 (Nat.le_of_ble_eq_true rfl) (htt _ lk_World_172) (fun _ h9 => h9) xg_4_4 d_World_procedure_9 ?_
    refine lv_icmp_ge (tgt := 19) hx hb d_World_procedure_12 (by decide) (fun c_2 => ?_) (fun c_2 => ?_)
    · replace hm := if_t c_2 hm
      refine lv_iconst (v := -1) hx hb d_World_procedure_19 (by decide) ?_
      have e3 := re1 hm
      exact W.iret hx hb hr (fun t9 ht hW => ⟨⟨_, (), rfl, e3.symm, trivial⟩, hS.F ht⟩) hS.2.2 d_World_procedure_20
    · replace hm := if_f c_2 hm
      refine lv_iload_n hx hb d_World_procedure_15 rfl (lv_at hl 2 rfl) ?_
      refine lv_if_ge (tgt := 21) hx hb d_World_procedure_16 (by decide) (fun c_3 => ?_) (fun c_3 => ?_)
      · replace hm := if_t c_3 hm
        refine lv_iload_n hx hb d_World_procedure_21 rfl (lv_at hl 2 rfl) ?_
        refine lv_if_ne (tgt := 42) hx hb d_World_procedure_22 (by decide) (fun c_4 => ?_) (fun c_4 => ?_)
        · replace hm := if_f c_4 hm
          refine lv_iload_n hx hb d_World_procedure_42 rfl (lv_at hl 2 rfl) ?_
          refine lv_iconst (v := 1) hx hb d_World_procedure_43 (by decide) ?_
          refine lv_icmp_ne (tgt := 66) hx hb d_World_procedure_44 (by decide) (fun c_5 => ?_) (fun c_5 => ?_)
          · replace hm := if_f c_5 hm
            refine lv_aload_n hx hb d_World_procedure_66 rfl (lv_at hl 0 rfl) ?_
            refine va_get (D := (dC, dI)) (ci := 0) (v := .ref ((u 1))) (C := R_World) (T := F_World) (N := 13) hx hb htt iw_World hown hK hP 0 xo_0 rfl 0 (Nat.le_of_ble_eq_true rfl) (htt _ lk_World_17) (fun _ h9 => h9) xg_0_0 d_World_procedure_67 ?_
            refine lv_aload_n hx hb d_World_procedure_70 rfl (lv_at hl 0 rfl) ?_
            refine va_get (D := (dC, dI)) (ci := 0) (v := .ref ((u 4))) (C := R_World) (T := F_World) (N := 13) hx hb htt iw_World hown hK hP 0 xo_0 rfl 2 (Nat.le_of_ble_eq_true rfl) (htt _ lk_World_33) (fun _ h9 => h9) xg_0_2 d_World_procedure_71 ?_
            refine va_get (D := (dC, dI)) (ci := 4) (v := .ref ((u 25))) (C := R_Procedures) (T := F_Procedures) (N := 8) hx hb htt iw_Procedures hown hK hP 4 xo_4 rfl 1 (Nat.le_of_ble_eq_true rfl) (htt _ lk_World_232) (fun _ h9 => h9) xg_4_1 d_World_procedure_74 ?_
            refine lv_iload_n hx hb d_World_procedure_77 rfl (lv_at hl 1 rfl) ?_
            obtain ⟨h_6, hm⟩ := ck_some hm
            refine va_iald hx hb hK hP 27 0 twA_15 rfl h_6 d_World_procedure_78 ?_
            refine lv_iload_n hx hb d_World_procedure_79 rfl (lv_at hl 2 rfl) ?_
            refine lv_iconst (v := 2) hx hb d_World_procedure_80 (by decide) ?_
            refine lv_isub hx hb d_World_procedure_81 ?_
            obtain ⟨r_8, h_7, hm⟩ := ob0_some hm
            have hFc := x_free0 hS hA
            refine va_calli (va_runV (As := [.int (a 15 v1.toNatClampNeg), .int (v2 - 2)]) (rest := []) ⟨hx, hb, hml, hown, hts⟩ (x_Heap_letter l dC dI cI adK adV adA u o g s.heap.size n h_7) (cwV 2 hts (tw_GV tw_cons cw_Heap_letter lk_World_209 in_Heap_letter sel_Heap_letter ini_Heap) rfl rfl rfl ⟨rfl, hd_Heap_letter⟩ ⟨Nat.le_of_ble_eq_true rfl, Nat.le_of_ble_eq_true rfl⟩) (xpVr hK hP hS hE hFc xo_1 rfl) rfl rfl hl.1 rfl (lv_room (Nat.le_of_ble_eq_true rfl)) d_World_procedure_82 ⟨Nat.le_of_ble_eq_true rfl, Nat.le_of_ble_eq_true rfl⟩) hS (fun q _ h => hFc q h) hFc (fun r9 u9 t9 H locs ht hvm e9 hB hz1 hk1 hS => ?_)
            have e9 : r_8 = r9 := e9
            subst e9
            replace hP := x_keep hP hk1
            clear hFc hk1 hz1 hvm hB ht
            have e3 := re1 hm
            exact W.iret hx hb hr (fun t9 ht hW => ⟨⟨_, (), rfl, e3.symm, trivial⟩, hS.F ht⟩) hS.2.2 d_World_procedure_85
          · replace hm := if_t c_5 hm
            refine lv_aload_n hx hb d_World_procedure_47 rfl (lv_at hl 0 rfl) ?_
            refine va_get (D := (dC, dI)) (ci := 0) (v := .ref ((u 1))) (C := R_World) (T := F_World) (N := 13) hx hb htt iw_World hown hK hP 0 xo_0 rfl 0 (Nat.le_of_ble_eq_true rfl) (htt _ lk_World_17) (fun _ h9 => h9) xg_0_0 d_World_procedure_48 ?_
            refine lv_aload_n hx hb d_World_procedure_51 rfl (lv_at hl 0 rfl) ?_
            refine va_get (D := (dC, dI)) (ci := 0) (v := .ref ((u 4))) (C := R_World) (T := F_World) (N := 13) hx hb htt iw_World hown hK hP 0 xo_0 rfl 2 (Nat.le_of_ble_eq_true rfl) (htt _ lk_World_33) (fun _ h9 => h9) xg_0_2 d_World_procedure_52 ?_
            refine va_get (D := (dC, dI)) (ci := 4) (v := .ref ((u 27))) (C := R_Procedures) (T := F_Procedures) (N := 8) hx hb htt iw_Procedures hown hK hP 4 xo_4 rfl 3 (Nat.le_of_ble_eq_true rfl) (htt _ lk_World_229) (fun _ h9 => h9) xg_4_3 d_World_procedure_55 ?_
            refine lv_iload_n hx hb d_World_procedure_58 rfl (lv_at hl 1 rfl) ?_
            obtain ⟨h_9, hm⟩ := ck_some hm
            refine va_iald hx hb hK hP 29 0 twA_17 rfl h_9 d_World_procedure_59 ?_
            obtain ⟨r_11, h_10, hm⟩ := ob0_some hm
            have hFc := x_free0 hS hA
            refine va_calli (va_runV (As := [.int (a 17 v1.toNatClampNeg)]) (rest := []) ⟨hx, hb, hml, hown, hts⟩ (x_Heap_count l dC dI cI adK adV adA u o g s.heap.size n h_10) (cwV 1 hts (tw_GV tw_cons cw_Heap_count lk_World_131 in_Heap_count sel_Heap_count ini_Heap) rfl rfl rfl ⟨rfl, hd_Heap_count⟩ ⟨Nat.le_of_ble_eq_true rfl, Nat.le_of_ble_eq_true rfl⟩) (xpVr hK hP hS hE hFc xo_1 rfl) rfl rfl hl.1 rfl (lv_room (Nat.le_of_ble_eq_true rfl)) d_World_procedure_60 ⟨Nat.le_of_ble_eq_true rfl, Nat.le_of_ble_eq_true rfl⟩) hS (fun q _ h => hFc q h) hFc (fun r9 u9 t9 H locs ht hvm e9 hB hz1 hk1 hS => ?_)
            have e9 : r_11 = r9 := e9
            subst e9
            replace hP := x_keep hP hk1
            clear hFc hk1 hz1 hvm hB ht
            refine lv_goto (tgt := 85) hx hb d_World_procedure_63 (by decide) ?_
            have e3 := re1 hm
            exact W.iret hx hb hr (fun t9 ht hW => ⟨⟨_, (), rfl, e3.symm, trivial⟩, hS.F ht⟩) hS.2.2 d_World_procedure_85
        · replace hm := if_t c_4 hm
          refine lv_aload_n hx hb d_World_procedure_25 rfl (lv_at hl 0 rfl) ?_
          refine va_get (D := (dC, dI)) (ci := 0) (v := .ref ((u 1))) (C := R_World) (T := F_World) (N := 13) hx hb htt iw_World hown hK hP 0 xo_0 rfl 0 (Nat.le_of_ble_eq_true rfl) (htt _ lk_World_17) (fun _ h9 => h9) xg_0_0 d_World_procedure_26 ?_
          refine lv_aload_n hx hb d_World_procedure_29 rfl (lv_at hl 0 rfl) ?_
          refine va_get (D := (dC, dI)) (ci := 0) (v := .ref ((u 4))) (C := R_World) (T := F_World) (N := 13) hx hb htt iw_World hown hK hP 0 xo_0 rfl 2 (Nat.le_of_ble_eq_true rfl) (htt _ lk_World_33) (fun _ h9 => h9) xg_0_2 d_World_procedure_30 ?_
          refine va_get (D := (dC, dI)) (ci := 4) (v := .ref ((u 26))) (C := R_Procedures) (T := F_Procedures) (N := 8) hx hb htt iw_Procedures hown hK hP 4 xo_4 rfl 2 (Nat.le_of_ble_eq_true rfl) (htt _ lk_World_225) (fun _ h9 => h9) xg_4_2 d_World_procedure_33 ?_
          refine lv_iload_n hx hb d_World_procedure_36 rfl (lv_at hl 1 rfl) ?_
          obtain ⟨h_12, hm⟩ := ck_some hm
          refine va_iald hx hb hK hP 28 0 twA_16 rfl h_12 d_World_procedure_37 ?_
          obtain ⟨r_14, h_13, hm⟩ := ob0_some hm
          have hFc := x_free0 hS hA
          refine va_calli (va_runV (As := [.int (a 16 v1.toNatClampNeg)]) (rest := []) ⟨hx, hb, hml, hown, hts⟩ (x_Heap_count l dC dI cI adK adV adA u o g s.heap.size n h_13) (cwV 1 hts (tw_GV tw_cons cw_Heap_count lk_World_131 in_Heap_count sel_Heap_count ini_Heap) rfl rfl rfl ⟨rfl, hd_Heap_count⟩ ⟨Nat.le_of_ble_eq_true rfl, Nat.le_of_ble_eq_true rfl⟩) (xpVr hK hP hS hE hFc xo_1 rfl) rfl rfl hl.1 rfl (lv_room (Nat.le_of_ble_eq_true rfl)) d_World_procedure_38 ⟨Nat.le_of_ble_eq_true rfl, Nat.le_of_ble_eq_true rfl⟩) hS (fun q _ h => hFc q h) hFc (fun r9 u9 t9 H locs ht hvm e9 hB hz1 hk1 hS => ?_)
          have e9 : r_14 = r9 := e9
          subst e9
          replace hP := x_keep hP hk1
          clear hFc hk1 hz1 hvm hB ht
          have e3 := re1 hm
          exact W.iret hx hb hr (fun t9 ht hW => ⟨⟨_, (), rfl, e3.symm, trivial⟩, hS.F ht⟩) hS.2.2 d_World_procedure_41
      · replace hm := if_f c_3 hm
        refine lv_iconst (v := -1) hx hb d_World_procedure_19 (by decide) ?_
        have e3 := re1 hm
        exact W.iret hx hb hr (fun t9 ht hW => ⟨⟨_, (), rfl, e3.symm, trivial⟩, hS.F ht⟩) hS.2.2 d_World_procedure_20

def m_Heap_newListOf_a32_b25 (n : Nat) : Nat → (Nat → Int32) → (Nat → Nat → Int32) → (Nat → Nat) → Int32 → Int32 → Int32 → Int32 → Option ((Nat → Int32) × (Nat → Nat → Int32) × (Nat → Nat) × (Nat × Nat) × Int32)
  | 0, _, _, _, _, _, _, _ => none
  | f + 1, i, a, g, v2, v3, v4, v5 => if v3 ≤ v5 then obG (m_Heap_newList n g i a v3 v4) (fun i_3 a_4 g_5 r_7 => if r_7 = ((-2147483648 : Int32)) then some (i_3, a_4, g_5, (0, 0), r_7) else cy v2 ((r_7 >>> ((2 : Int32) &&& 31)) + 1) v3 600 (g_5 0) (ob1 (updA a_4 0 (va_cpy (a_4 32) (a_4 0) v2.toNatClampNeg ((r_7 >>> ((2 : Int32) &&& 31)) + 1).toNatClampNeg v3.toNatClampNeg) : Nat → Nat → Int32) (fun a_14 => some (i_3, a_14, g_5, (0, 0), r_7)))) else ck ((v2 + v5)) 600 (ob0 (m_Heap_size n g i a (a 32 (v2 + v5).toNatClampNeg)) (fun r_17 => ob1 (v4 + r_17 : Int32) (fun x_20 => ob1 (v5 + 1 : Int32) (fun x_21 => m_Heap_newListOf_a32_b25 n f i a g v2 v3 x_20 x_21))))
set_option maxHeartbeats 4000000 in
set_option maxRecDepth 100000 in
theorem lb_Heap_newListOf_a32_25 (l : Launch) (dC : Nat → ClassId) (dI : Nat → Nat → Nat) (cI : ClassId) (adK adV adA u : Nat → Nat) (n : Nat) {p : Program} {e : Env} {s : State} {m : MethodId} {args : Array Value} {below : List Frame} {meth : Method} {c : Code} {A : Nat → Prop} (hx : p.tables.exec = Jvm.exec) (hb : c.code = b_Heap_newListOf) (hml : c.maxLocals = 6) (hown : s.vm.findClass R_Heap = some m.cls) (hts : ∀ w ∈ w_Heap_newListOf, w.before args s = true) (hK : va_K (dC, dI) classes [(cI, .int)] s) (hE : tw_E adK adV adA A s s.heap) (hA : ∀ q : Nat, s.heap.size ≤ q → A q) (hr : meth.sig.returnType = (some .int)) (hlocks : meth.locks = false) {mc ms : Nat} {i2 : Nat → Int32} {a2 : Nat → Nat → Int32} {g2 : Nat → Nat} {r2 : Int32} : ∀ (f : Nat) (i : Nat → Int32) (a : Nat → Nat → Int32) (g : Nat → Nat) (v2 : Int32) (v3 : Int32) (v4 : Int32) (v5 : Int32) (k2 : Nat × Nat), m_Heap_newListOf_a32_b25 n f i a g v2 v3 v4 v5 = some (i2, a2, g2, k2, r2) → ∀ (o : Nat → Nat) (kc ks : Nat), kc + k2.1 = mc → ks + k2.2 = ms → ∀ (H : Heap) (locs : List Loc) (ls : Array Slot), va_P (dC, dI) classes (TW cI u o i a g) H → va_D A (TW cI u o i a g) → va_S A s.heap H locs → lv_has ls 6 [(0, .ref ((u 1))), (1, .ref ((u 42))), (2, .int v2), (3, .int v3), (4, .int v4), (5, .int v5)] → W p l e ({ frames := 4, cells := mc, slots := ms, locals := 107 } : Room) s m args below meth c H locs kc ks (MQ below (va_Qi (xRg r2) (xBg dC dI cI u g2 i2 a2 A) A) args s mc ms A) (F0 m 25 ls []) := by
  have htt : ∀ w ∈ tw_T, w.before _ s = true := fun w h => hts w (List.mem_cons_of_mem _ h)
  intro f
  induction f with
  | zero =>
    intro i a g v2 v3 v4 v5 k2 hm
    rw [m_Heap_newListOf_a32_b25] at hm
    cases hm
  | succ f ih =>
    intro i a g v2 v3 v4 v5 k2 hm o kc ks hkc hks H locs ls hP hD hS hl
    rw [m_Heap_newListOf_a32_b25] at hm
    refine lv_iload hx hb d_Heap_newListOf_25 (lv_at hl 5 rfl) ?_
    refine lv_iload_n hx hb d_Heap_newListOf_27 rfl (lv_at hl 3 rfl) ?_
    refine lv_icmp_ge (tgt := 52) hx hb d_Heap_newListOf_28 (by decide) (fun c_1 => ?_) (fun c_1 => ?_)
    · replace hm := if_t c_1 hm
      refine lv_aload_n hx hb d_Heap_newListOf_52 rfl (lv_at hl 0 rfl) ?_
      refine lv_iload_n hx hb d_Heap_newListOf_53 rfl (lv_at hl 3 rfl) ?_
      refine lv_iload hx hb d_Heap_newListOf_54 (lv_at hl 4 rfl) ?_
      obtain ⟨i_3, a_4, g_5, k_6, r_7, k_8, h_2, hm, e7, e8⟩ := obG_some hm
      have hFc := x_free hD hS hA
      refine xg_calli (va_runV (As := [.int v3, .int v4]) (rest := []) ⟨hx, hb, hml, hown, hts⟩ (x_Heap_newList l dC dI cI adK adV adA u o g H.size n h_2) (cwV 2 hts (tw_GV tw_cons cw_Heap_newList lk_Heap_122 in_Heap_newList sel_Heap_newList ini_Heap) rfl rfl rfl ⟨rfl, hd_Heap_newList⟩ ⟨Nat.le_of_ble_eq_true rfl, Nat.le_of_ble_eq_true rfl⟩) (xpV hK hP hD hS hE hFc xo_1 rfl) rfl rfl hl.1 rfl (lv_room (Nat.le_of_ble_eq_true rfl)) d_Heap_newListOf_56 ⟨show kc + k_6.1 ≤ mc by omega, show ks + k_6.2 ≤ ms by omega⟩) hS (fun q _ h => hFc q h) hFc (fun kc_10 ks_11 r9 o_9 t9 H locs ekc eks ht hvm e9 hB hz1 hk1 hS => ?_)
      replace hkc : kc_10 + k_8.1 = mc := by omega
      replace hks : ks_11 + k_8.2 = ms := by omega
      clear e7 e8
      clear ekc eks
      have e9 : r_7 = r9 := e9
      subst e9
      obtain ⟨hP, hD⟩ := x_aftg hB ht hFc
      clear hFc hk1 hz1 hvm hB ht
      refine lv_istore (lv' := [(5, .int r_7), (0, .ref ((u 1))), (1, .ref ((u 42))), (2, .int v2), (3, .int v3), (4, .int v4)]) hx hb d_Heap_newListOf_59 hl (by decide) rfl (fun ls hl => ?_)
      refine lv_iload hx hb d_Heap_newListOf_61 (lv_at hl 0 rfl) ?_
      refine lv_ldc (v := (-2147483648)) hx hb hown (htt _ lk_Heap_71) d_Heap_newListOf_63 ?_
      refine lv_icmp_eq (tgt := 84) hx hb d_Heap_newListOf_65 (by decide) (fun c_12 => ?_) (fun c_12 => ?_)
      · replace hm := if_t c_12 hm
        refine lv_iload hx hb d_Heap_newListOf_84 (lv_at hl 0 rfl) ?_
        obtain ⟨e1, e2, e4, e5, e6, e3⟩ := re5 hm
        obtain ⟨hP, hD⟩ := x_eqg e1 e2 e4 hP hD
        refine W.widen (k := mc) (n := ms) (show kc_10 ≤ mc by omega) (show ks_11 ≤ ms by omega) ?_
        exact W.iret hx hb hr (fun t9 ht hW => ⟨⟨_, o_9, rfl, e3.symm, by rw [ht]; exact hP, hD⟩, hS.F ht⟩) hS.2.2 d_Heap_newListOf_86
      · replace hm := if_f c_12 hm
        refine lv_aload_n hx hb d_Heap_newListOf_68 rfl (lv_at hl 2 rfl) ?_
        refine lv_iload_n hx hb d_Heap_newListOf_69 rfl (lv_at hl 3 rfl) ?_
        refine lv_aload_n hx hb d_Heap_newListOf_70 rfl (lv_at hl 1 rfl) ?_
        refine va_get (D := (dC, dI)) (ci := 1) (v := .ref ((o_9 0))) (C := R_Heap) (T := F_Heap) (N := 12) hx hb htt iw_Heap hown hK hP 1 xo_1 rfl 5 (Nat.le_of_ble_eq_true rfl) (htt _ lk_Heap_11) (fun _ h9 => h9) xg_1_5 d_Heap_newListOf_71 ?_
        refine lv_iload hx hb d_Heap_newListOf_74 (lv_at hl 0 rfl) ?_
        refine lv_iconst (v := 2) hx hb d_Heap_newListOf_76 (by decide) ?_
        refine lv_ishr hx hb d_Heap_newListOf_77 ?_
        refine lv_iconst (v := 1) hx hb d_Heap_newListOf_78 (by decide) ?_
        refine lv_iadd hx hb d_Heap_newListOf_79 ?_
        refine lv_iload_n hx hb d_Heap_newListOf_80 rfl (lv_at hl 4 rfl) ?_
        obtain ⟨h_13a, h_13b, h_13c, h_13d, h_13e, hm⟩ := cy_some hm
        refine va_copyi hx hb (by rw [hml]; exact hl.1.symm) hown (htt _ lk_Heap_106) (htt _ na_arraycopy) (htt _ st_arraycopy) (htt _ ini_System) hK hP hD hS 44 12 0 0 (ty := .int) twA_32 twA_0 rfl rfl rfl h_13a h_13b h_13c h_13d h_13e (fun _ _ => rfl) (Nat.le_of_ble_eq_true rfl) (Nat.le_of_ble_eq_true rfl) d_Heap_newListOf_81 (fun H locs hP hD hS => ?_)
        obtain ⟨a_14, ea_14⟩ : ∃ y9 : Nat → Nat → Int32, y9 = updA a_4 0 (va_cpy (a_4 32) (a_4 0) v2.toNatClampNeg ((r_7 >>> ((2 : Int32) &&& 31)) + 1).toNatClampNeg v3.toNatClampNeg) := ⟨_, rfl⟩
        replace hm := ob1_at ea_14 hm
        obtain ⟨hP, hD⟩ := xv_0 ea_14 hP hD
        refine lv_iload hx hb d_Heap_newListOf_84 (lv_at hl 0 rfl) ?_
        obtain ⟨e1, e2, e4, e5, e6, e3⟩ := re5 hm
        obtain ⟨hP, hD⟩ := x_eqg e1 e2 e4 hP hD
        refine W.widen (k := mc) (n := ms) (show kc_10 ≤ mc by omega) (show ks_11 ≤ ms by omega) ?_
        exact W.iret hx hb hr (fun t9 ht hW => ⟨⟨_, o_9, rfl, e3.symm, by rw [ht]; exact hP, hD⟩, hS.F ht⟩) hS.2.2 d_Heap_newListOf_86
    · replace hm := if_f c_1 hm
      refine lv_iload hx hb d_Heap_newListOf_31 (lv_at hl 4 rfl) ?_
      refine lv_aload_n hx hb d_Heap_newListOf_33 rfl (lv_at hl 0 rfl) ?_
      refine lv_aload_n hx hb d_Heap_newListOf_34 rfl (lv_at hl 1 rfl) ?_
      refine lv_iload_n hx hb d_Heap_newListOf_35 rfl (lv_at hl 2 rfl) ?_
      refine lv_iload hx hb d_Heap_newListOf_36 (lv_at hl 5 rfl) ?_
      refine lv_iadd hx hb d_Heap_newListOf_38 ?_
      obtain ⟨h_15, hm⟩ := ck_some hm
      refine va_iald hx hb hK hP 44 0 twA_32 rfl h_15 d_Heap_newListOf_39 ?_
      obtain ⟨r_17, h_16, hm⟩ := ob0_some hm
      have hFc := x_free0 hS hA
      refine xg_calli (va_runV (As := [.int (a 32 (v2 + v5).toNatClampNeg)]) (rest := [.int v4]) ⟨hx, hb, hml, hown, hts⟩ (x_Heap_size l dC dI cI adK adV adA u o g H.size n h_16) (cwV 1 hts (tw_GV tw_cons cw_Heap_size lk_Heap_119 in_Heap_size sel_Heap_size ini_Heap) rfl rfl rfl ⟨rfl, hd_Heap_size⟩ ⟨Nat.le_of_ble_eq_true rfl, Nat.le_of_ble_eq_true rfl⟩) (xpVr hK hP hS hE hFc xo_1 rfl) rfl rfl hl.1 rfl (lv_room (Nat.le_of_ble_eq_true rfl)) d_Heap_newListOf_40 ⟨show kc + 0 ≤ mc by omega, show ks + 0 ≤ ms by omega⟩) hS (fun q _ h => hFc q h) hFc (fun kc_18 ks_19 r9 u9 t9 H locs ekc eks ht hvm e9 hB hz1 hk1 hS => ?_)
      replace hkc : kc_18 + k2.1 = mc := by omega
      replace hks : ks_19 + k2.2 = ms := by omega
      clear ekc eks
      have e9 : r_17 = r9 := e9
      subst e9
      replace hP := x_keep hP hk1
      clear hFc hk1 hz1 hvm hB ht
      refine lv_iadd hx hb d_Heap_newListOf_43 ?_
      refine lv_topi (fun x_20 ex_20 => ?_)
      replace hm := ob1_at ex_20 hm
      refine lv_istore (lv' := [(4, .int x_20), (0, .ref ((u 1))), (1, .ref ((u 42))), (2, .int v2), (3, .int v3), (5, .int v5)]) hx hb d_Heap_newListOf_44 hl (by decide) rfl (fun ls hl => ?_)
      obtain ⟨x_21, ex_21⟩ : ∃ y9 : Int32, y9 = v5 + 1 := ⟨_, rfl⟩
      replace hm := ob1_at ex_21 hm
      refine lv_iinc (v := x_21) (lv' := [(5, .int x_21), (4, .int x_20), (0, .ref ((u 1))), (1, .ref ((u 42))), (2, .int v2), (3, .int v3)]) hx hb d_Heap_newListOf_46 hl (k := 5) rfl (by rw [ex_21]; rfl) (by decide) rfl (fun ls hl => ?_)
      refine lv_goto (tgt := 25) hx hb d_Heap_newListOf_49 (by decide) ?_
      exact ih _ _ _ _ _ _ _ _ hm o kc_18 ks_19 hkc hks _ _ _ hP hD hS (lv_sub hl [2, 3, 4, 5, 1, 0] rfl)
def m_Heap_newListOf_a32 (n : Nat) (g : Nat → Nat) (i : Nat → Int32) (a : Nat → Nat → Int32) (v2 : Int32) (v3 : Int32) : Option ((Nat → Int32) × (Nat → Nat → Int32) × (Nat → Nat) × (Nat × Nat) × Int32) := if v2 < ((0 : Int32)) then some (i, a, g, (0, 0), (-2147483648)) else if v3 < ((0 : Int32)) then some (i, a, g, (0, 0), (-2147483648)) else if v3 ≤ (((nI 600) - v2)) then m_Heap_newListOf_a32_b25 n n i a g v2 v3 (1 : Int32) (0 : Int32) else some (i, a, g, (0, 0), (-2147483648))
set_option maxHeartbeats 4000000 in
set_option maxRecDepth 100000 in
theorem x_Heap_newListOf_a32 (l : Launch) (dC : Nat → ClassId) (dI : Nat → Nat → Nat) (cI : ClassId) (adK adV adA u o g : Nat → Nat) (sz : Nat) (n : Nat) {i : Nat → Int32} {a : Nat → Nat → Int32} {v2 : Int32} {v3 : Int32} {i2 : Nat → Int32} {a2 : Nat → Nat → Int32} {g2 : Nat → Nat} {k2 : Nat × Nat} {r2 : Int32} (hm : m_Heap_newListOf_a32 n g i a v2 v3 = some (i2, a2, g2, k2, r2)) : Met l y_Heap_newListOf w_Heap_newListOf ({ frames := 4, cells := k2.1, slots := k2.2, locals := 107 } : Room) (va_Pc [.ref ((u 1)), .ref ((u 42)), .int v2, .int v3] (xE dC dI cI adK adV adA u o g i a sz)) (va_Qi (xRg r2) (xBg dC dI cI u g2 i2 a2 (va_A (TW cI u o i a g) sz)) (va_A (TW cI u o i a g) sz)) k2.1 k2.2 ((va_A (TW cI u o i a g) sz)) := by
  refine Met.ofW (cc := b_Heap_newListOf) (maxL := 6) (ret := (some .int)) (by decide) rfl ?_
  intro p e s m args below meth c s₁ B hml hv
  obtain ⟨rfl, hsz, hP, hK, hE, hD0⟩ := hv
  have hx := B.exec
  have hb := B.bytes
  have hr := B.returns
  have hts := atoms_spec (ws := w_Heap_newListOf) B.pre
  have htt : ∀ w ∈ tw_T, w.before _ s = true := fun w h => hts w (List.mem_cons_of_mem _ h)
  have hown : s.vm.findClass R_Heap = some m.cls := findClass_of_methodNamed B.named
  have hlocks := B.notSynchronized
  subst hsz
  have hD := hD0.self (sz := s.heap.size)
  generalize hAe : (va_A (TW cI u o i a g) s.heap.size) = A at hD hE ⊢
  have hA : ∀ q : Nat, s.heap.size ≤ q → A q := fun q h => by rw [← hAe]; exact Or.inr h
  have hS : va_S A s.heap s.heap [] := va_S.rf
  obtain ⟨mc, ms, emc, ems⟩ : ∃ mc ms : Nat, k2.1 = mc ∧ k2.2 = ms := ⟨_, _, rfl, rfl⟩
  have hkc : 0 + k2.1 = mc := by rw [Nat.zero_add]; exact emc
  have hks : 0 + k2.2 = ms := by rw [Nat.zero_add]; exact ems
  rw [emc, ems]
  clear emc ems
  have hl := lv_entry ([.ref ((u 1)), .ref ((u 42)), .int v2, .int v3]) (n := 6) (Nat.le_of_ble_eq_true rfl)
  rw [lg_entry_eq]
  generalize (lg_sl ([.ref ((u 1)), .ref ((u 42)), .int v2, .int v3]) ++ List.replicate (6 - (lg_sl ([.ref ((u 1)), .ref ((u 42)), .int v2, .int v3])).length) Slot.unset).toArray = ls at hl ⊢
  have hl : lv_has ls 6 [(0, .ref ((u 1))), (1, .ref ((u 42))), (2, .int v2), (3, .int v3)] := hl
  rw [m_Heap_newListOf_a32] at hm
  refine lv_iload_n hx hb d_Heap_newListOf_0 rfl (lv_at hl 2 rfl) ?_
  refine lv_if_lt (tgt := 16) hx hb d_Heap_newListOf_1 (by decide) (fun c_1 => ?_) (fun c_1 => ?_)
  · replace hm := if_t c_1 hm
    refine lv_ldc (v := (-2147483648)) hx hb hown (htt _ lk_Heap_71) d_Heap_newListOf_16 ?_
    obtain ⟨e1, e2, e4, e5, e6, e3⟩ := re5 hm
    obtain ⟨hP, hD⟩ := x_eqg e1 e2 e4 hP hD
    refine W.widen (k := mc) (n := ms) (show 0 ≤ mc by omega) (show 0 ≤ ms by omega) ?_
    exact W.iret hx hb hr (fun t9 ht hW => ⟨⟨_, o, rfl, e3.symm, by rw [ht]; exact hP, hD⟩, hS.F ht⟩) hS.2.2 d_Heap_newListOf_18
  · replace hm := if_f c_1 hm
    refine lv_iload_n hx hb d_Heap_newListOf_4 rfl (lv_at hl 3 rfl) ?_
    refine lv_if_lt (tgt := 16) hx hb d_Heap_newListOf_5 (by decide) (fun c_2 => ?_) (fun c_2 => ?_)
    · replace hm := if_t c_2 hm
      refine lv_ldc (v := (-2147483648)) hx hb hown (htt _ lk_Heap_71) d_Heap_newListOf_16 ?_
      obtain ⟨e1, e2, e4, e5, e6, e3⟩ := re5 hm
      obtain ⟨hP, hD⟩ := x_eqg e1 e2 e4 hP hD
      refine W.widen (k := mc) (n := ms) (show 0 ≤ mc by omega) (show 0 ≤ ms by omega) ?_
      exact W.iret hx hb hr (fun t9 ht hW => ⟨⟨_, o, rfl, e3.symm, by rw [ht]; exact hP, hD⟩, hS.F ht⟩) hS.2.2 d_Heap_newListOf_18
    · replace hm := if_f c_2 hm
      refine lv_iload_n hx hb d_Heap_newListOf_8 rfl (lv_at hl 3 rfl) ?_
      refine lv_aload_n hx hb d_Heap_newListOf_9 rfl (lv_at hl 1 rfl) ?_
      refine va_alen (v := nI 600) hx hb hK hP 44 0 twA_32 rfl rfl d_Heap_newListOf_10 ?_
      refine lv_iload_n hx hb d_Heap_newListOf_11 rfl (lv_at hl 2 rfl) ?_
      refine lv_isub hx hb d_Heap_newListOf_12 ?_
      refine lv_icmp_le (tgt := 19) hx hb d_Heap_newListOf_13 (by decide) (fun c_3 => ?_) (fun c_3 => ?_)
      · replace hm := if_t c_3 hm
        refine lv_iconst (v := 1) hx hb d_Heap_newListOf_19 (by decide) ?_
        refine lv_istore (lv' := [(4, .int 1), (0, .ref ((u 1))), (1, .ref ((u 42))), (2, .int v2), (3, .int v3)]) hx hb d_Heap_newListOf_20 hl (by decide) rfl (fun ls hl => ?_)
        refine lv_iconst (v := 0) hx hb d_Heap_newListOf_22 (by decide) ?_
        refine lv_istore (lv' := [(5, .int 0), (4, .int 1), (0, .ref ((u 1))), (1, .ref ((u 42))), (2, .int v2), (3, .int v3)]) hx hb d_Heap_newListOf_23 hl (by decide) rfl (fun ls hl => ?_)
        exact lb_Heap_newListOf_a32_25 l dC dI cI adK adV adA u n hx hb hml hown hts hK hE hA hr hlocks n _ _ _ _ _ _ _ _ hm o 0 0 hkc hks _ _ _ hP hD hS (lv_sub hl [2, 3, 4, 5, 1, 0] rfl)
      · replace hm := if_f c_3 hm
        refine lv_ldc (v := (-2147483648)) hx hb hown (htt _ lk_Heap_71) d_Heap_newListOf_16 ?_
        obtain ⟨e1, e2, e4, e5, e6, e3⟩ := re5 hm
        obtain ⟨hP, hD⟩ := x_eqg e1 e2 e4 hP hD
        refine W.widen (k := mc) (n := ms) (show 0 ≤ mc by omega) (show 0 ≤ ms by omega) ?_
        exact W.iret hx hb hr (fun t9 ht hW => ⟨⟨_, o, rfl, e3.symm, by rw [ht]; exact hP, hD⟩, hS.F ht⟩) hS.2.2 d_Heap_newListOf_18

def m_Reader_closeInputs (n : Nat) (g : Nat → Nat) (i : Nat → Int32) (a : Nat → Nat → Int32)  : Option ((Nat → Int32) × (Nat → Nat → Int32) × (Nat → Nat) × (Nat × Nat) × Int32) := if ((i 32)) = ((2 : Int32)) then if ((200 : Int32)) ≤ ((i 33)) then some (i, a, g, (0, 0), (0 : Int32)) else obG (m_Heap_newListOf_a32 n g i a (0 : Int32) (i 28)) (fun i_4 a_5 g_6 r_8 => ck ((i 33)) 200 (ob1 (sv a_5 35 (i 33).toNatClampNeg r_8 : Nat → Nat → Int32) (fun a_14 => ob1 (upd i_4 28 0 : Nat → Int32) (fun i_15 => ob1 (upd i_15 32 3 : Nat → Int32) (fun i_16 => some (i_16, a_14, g_6, (0, 0), (0 : Int32))))))) else some (i, a, g, (0, 0), (0 : Int32))
set_option maxHeartbeats 4000000 in
set_option maxRecDepth 100000 in
theorem x_Reader_closeInputs (l : Launch) (dC : Nat → ClassId) (dI : Nat → Nat → Nat) (cI : ClassId) (adK adV adA u o g : Nat → Nat) (sz : Nat) (n : Nat) {i : Nat → Int32} {a : Nat → Nat → Int32}  {i2 : Nat → Int32} {a2 : Nat → Nat → Int32} {g2 : Nat → Nat} {k2 : Nat × Nat} {r2 : Int32} (hm : m_Reader_closeInputs n g i a = some (i2, a2, g2, k2, r2)) : Met l y_Reader_closeInputs w_Reader_closeInputs ({ frames := 5, cells := k2.1, slots := k2.2, locals := 132 } : Room) (va_Pc [.ref ((u 7))] (xE dC dI cI adK adV adA u o g i a sz)) (va_Qv xVg (xBg dC dI cI u g2 i2 a2 (va_A (TW cI u o i a g) sz)) (va_A (TW cI u o i a g) sz)) k2.1 k2.2 ((va_A (TW cI u o i a g) sz)) := by
  refine Met.ofW (cc := b_Reader_closeInputs) (maxL := 1) (ret := none) (by decide) rfl ?_
  intro p e s m args below meth c s₁ B hml hv
  obtain ⟨rfl, hsz, hP, hK, hE, hD0⟩ := hv
  have hx := B.exec
  have hb := B.bytes
  have hr := B.returns
  have hts := atoms_spec (ws := w_Reader_closeInputs) B.pre
  have htt : ∀ w ∈ tw_T, w.before _ s = true := fun w h => hts w (List.mem_cons_of_mem _ h)
  have hown : s.vm.findClass R_Reader = some m.cls := findClass_of_methodNamed B.named
  have hlocks := B.notSynchronized
  subst hsz
  have hD := hD0.self (sz := s.heap.size)
  generalize hAe : (va_A (TW cI u o i a g) s.heap.size) = A at hD hE ⊢
  have hA : ∀ q : Nat, s.heap.size ≤ q → A q := fun q h => by rw [← hAe]; exact Or.inr h
  have hS : va_S A s.heap s.heap [] := va_S.rf
  obtain ⟨mc, ms, emc, ems⟩ : ∃ mc ms : Nat, k2.1 = mc ∧ k2.2 = ms := ⟨_, _, rfl, rfl⟩
  have hkc : 0 + k2.1 = mc := by rw [Nat.zero_add]; exact emc
  have hks : 0 + k2.2 = ms := by rw [Nat.zero_add]; exact ems
  rw [emc, ems]
  clear emc ems
  have hl := lv_entry ([.ref ((u 7))]) (n := 1) (Nat.le_of_ble_eq_true rfl)
  rw [lg_entry_eq]
  generalize (lg_sl ([.ref ((u 7))]) ++ List.replicate (1 - (lg_sl ([.ref ((u 7))])).length) Slot.unset).toArray = ls at hl ⊢
  have hl : lv_has ls 1 [(0, .ref ((u 7)))] := hl
  rw [m_Reader_closeInputs] at hm
  refine lv_aload_n hx hb d_Reader_closeInputs_0 rfl (lv_at hl 0 rfl) ?_
  refine va_get (D := (dC, dI)) (ci := 7) (v := .int (i 32)) (C := R_Reader) (T := F_Reader) (N := 19) hx hb htt iw_Reader hown hK hP 7 xo_7 rfl 13 (Nat.le_of_ble_eq_true rfl) (htt _ lk_Reader_72) (fun _ h9 => h9) xg_7_13 d_Reader_closeInputs_1 ?_
  refine lv_iconst (v := 2) hx hb d_Reader_closeInputs_4 (by decide) ?_
  refine lv_icmp_ne (tgt := 53) hx hb d_Reader_closeInputs_5 (by decide) (fun c_1 => ?_) (fun c_1 => ?_)
  · replace hm := if_f c_1 hm
    obtain ⟨e1, e2, e4, e5, e6, e3⟩ := re5 hm
    obtain ⟨hP, hD⟩ := x_eqg e1 e2 e4 hP hD
    refine W.widen (k := mc) (n := ms) (show 0 ≤ mc by omega) (show 0 ≤ ms by omega) ?_
    exact W.vret hx hb hr (fun t9 ht hW => ⟨⟨o, rfl, trivial, by rw [ht]; exact hP, hD⟩, hS.F ht⟩) hS.2.2 d_Reader_closeInputs_53
  · replace hm := if_t c_1 hm
    refine lv_aload_n hx hb d_Reader_closeInputs_8 rfl (lv_at hl 0 rfl) ?_
    refine va_get (D := (dC, dI)) (ci := 7) (v := .int (i 33)) (C := R_Reader) (T := F_Reader) (N := 19) hx hb htt iw_Reader hown hK hP 7 xo_7 rfl 17 (Nat.le_of_ble_eq_true rfl) (htt _ lk_Reader_84) (fun _ h9 => h9) xg_7_17 d_Reader_closeInputs_9 ?_
    refine lv_sipush (v := 200) hx hb d_Reader_closeInputs_12 (by decide) ?_
    refine lv_icmp_ge (tgt := 53) hx hb d_Reader_closeInputs_15 (by decide) (fun c_2 => ?_) (fun c_2 => ?_)
    · replace hm := if_t c_2 hm
      obtain ⟨e1, e2, e4, e5, e6, e3⟩ := re5 hm
      obtain ⟨hP, hD⟩ := x_eqg e1 e2 e4 hP hD
      refine W.widen (k := mc) (n := ms) (show 0 ≤ mc by omega) (show 0 ≤ ms by omega) ?_
      exact W.vret hx hb hr (fun t9 ht hW => ⟨⟨o, rfl, trivial, by rw [ht]; exact hP, hD⟩, hS.F ht⟩) hS.2.2 d_Reader_closeInputs_53
    · replace hm := if_f c_2 hm
      refine lv_aload_n hx hb d_Reader_closeInputs_18 rfl (lv_at hl 0 rfl) ?_
      refine va_get (D := (dC, dI)) (ci := 7) (v := .ref ((u 45))) (C := R_Reader) (T := F_Reader) (N := 19) hx hb htt iw_Reader hown hK hP 7 xo_7 rfl 15 (Nat.le_of_ble_eq_true rfl) (htt _ lk_Reader_24) (fun _ h9 => h9) xg_7_15 d_Reader_closeInputs_19 ?_
      refine lv_aload_n hx hb d_Reader_closeInputs_22 rfl (lv_at hl 0 rfl) ?_
      refine va_get (D := (dC, dI)) (ci := 7) (v := .int (i 33)) (C := R_Reader) (T := F_Reader) (N := 19) hx hb htt iw_Reader hown hK hP 7 xo_7 rfl 17 (Nat.le_of_ble_eq_true rfl) (htt _ lk_Reader_84) (fun _ h9 => h9) xg_7_17 d_Reader_closeInputs_23 ?_
      refine lv_aload_n hx hb d_Reader_closeInputs_26 rfl (lv_at hl 0 rfl) ?_
      refine va_get (D := (dC, dI)) (ci := 7) (v := .ref ((u 1))) (C := R_Reader) (T := F_Reader) (N := 19) hx hb htt iw_Reader hown hK hP 7 xo_7 rfl 0 (Nat.le_of_ble_eq_true rfl) (htt _ lk_Reader_30) (fun _ h9 => h9) xg_7_0 d_Reader_closeInputs_27 ?_
      refine lv_aload_n hx hb d_Reader_closeInputs_30 rfl (lv_at hl 0 rfl) ?_
      refine va_get (D := (dC, dI)) (ci := 7) (v := .ref ((u 42))) (C := R_Reader) (T := F_Reader) (N := 19) hx hb htt iw_Reader hown hK hP 7 xo_7 rfl 7 (Nat.le_of_ble_eq_true rfl) (htt _ lk_Reader_15) (fun _ h9 => h9) xg_7_7 d_Reader_closeInputs_31 ?_
      refine lv_iconst (v := 0) hx hb d_Reader_closeInputs_34 (by decide) ?_
      refine lv_aload_n hx hb d_Reader_closeInputs_35 rfl (lv_at hl 0 rfl) ?_
      refine va_get (D := (dC, dI)) (ci := 7) (v := .int (i 28)) (C := R_Reader) (T := F_Reader) (N := 19) hx hb htt iw_Reader hown hK hP 7 xo_7 rfl 8 (Nat.le_of_ble_eq_true rfl) (htt _ lk_Reader_75) (fun _ h9 => h9) xg_7_8 d_Reader_closeInputs_36 ?_
      obtain ⟨i_4, a_5, g_6, k_7, r_8, k_9, h_3, hm, e7, e8⟩ := obG_some hm
      have hFc := x_free hD hS hA
      refine xg_calli (va_runV (As := [.ref ((u 42)), .int 0, .int (i 28)]) (rest := [.int (i 33), .ref ((u 45))]) ⟨hx, hb, hml, hown, hts⟩ (x_Heap_newListOf_a32 l dC dI cI adK adV adA u o g s.heap.size n h_3) (cwV 3 hts (tw_GV tw_cons cw_Heap_newListOf lk_Reader_123 in_Heap_newListOf sel_Heap_newListOf ini_Heap) rfl rfl rfl ⟨rfl, hd_Heap_newListOf⟩ ⟨Nat.le_of_ble_eq_true rfl, Nat.le_of_ble_eq_true rfl⟩) (xpV hK hP hD hS hE hFc xo_1 rfl) rfl rfl hl.1 rfl (lv_room (Nat.le_of_ble_eq_true rfl)) d_Reader_closeInputs_39 ⟨show 0 + k_7.1 ≤ mc by omega, show 0 + k_7.2 ≤ ms by omega⟩) hS (fun q _ h => hFc q h) hFc (fun kc_11 ks_12 r9 o_10 t9 H locs ekc eks ht hvm e9 hB hz1 hk1 hS => ?_)
      replace hkc : kc_11 + k_9.1 = mc := by omega
      replace hks : ks_12 + k_9.2 = ms := by omega
      clear e7 e8
      clear ekc eks
      have e9 : r_8 = r9 := e9
      subst e9
      obtain ⟨hP, hD⟩ := x_aftg hB ht hFc
      clear hFc hk1 hz1 hvm hB ht
      obtain ⟨h_13, hm⟩ := ck_some hm
      refine va_iast hx hb hK hP hD hS 47 0 twA_35 rfl h_13 d_Reader_closeInputs_42 (fun H locs hP hD hS => ?_)
      obtain ⟨a_14, ea_14⟩ : ∃ y9 : Nat → Nat → Int32, y9 = sv a_5 35 (i 33).toNatClampNeg r_8 := ⟨_, rfl⟩
      replace hm := ob1_at ea_14 hm
      obtain ⟨hP, hD⟩ := xv_35 ea_14 hP hD
      refine lv_aload_n hx hb d_Reader_closeInputs_43 rfl (lv_at hl 0 rfl) ?_
      refine lv_iconst (v := 0) hx hb d_Reader_closeInputs_44 (by decide) ?_
      refine va_put (D := (dC, dI)) (ci := 7) (v := .int 0) (ty := .int) (C := R_Reader) (T := F_Reader) (N := 19) hx hb htt iw_Reader t_Reader t_Reader_ok n_Reader hown hK hP hD hS 7 xo_7 rfl 8 (Nat.le_of_ble_eq_true rfl) (htt _ lk_Reader_75) (fun _ h9 => h9) rfl (by decide +kernel) rfl rfl xl_7_8 d_Reader_closeInputs_45 (fun H locs hP hD hS => ?_)
      obtain ⟨i_15, ei_15⟩ : ∃ y9 : Nat → Int32, y9 = upd i_4 28 0 := ⟨_, rfl⟩
      replace hm := ob1_at ei_15 hm
      obtain ⟨hP, hD⟩ := xw_28 ei_15 hP hD
      refine lv_aload_n hx hb d_Reader_closeInputs_48 rfl (lv_at hl 0 rfl) ?_
      refine lv_iconst (v := 3) hx hb d_Reader_closeInputs_49 (by decide) ?_
      refine va_put (D := (dC, dI)) (ci := 7) (v := .int 3) (ty := .int) (C := R_Reader) (T := F_Reader) (N := 19) hx hb htt iw_Reader t_Reader t_Reader_ok n_Reader hown hK hP hD hS 7 xo_7 rfl 13 (Nat.le_of_ble_eq_true rfl) (htt _ lk_Reader_72) (fun _ h9 => h9) rfl (by decide +kernel) rfl rfl xl_7_13 d_Reader_closeInputs_50 (fun H locs hP hD hS => ?_)
      obtain ⟨i_16, ei_16⟩ : ∃ y9 : Nat → Int32, y9 = upd i_15 32 3 := ⟨_, rfl⟩
      replace hm := ob1_at ei_16 hm
      obtain ⟨hP, hD⟩ := xw_32 ei_16 hP hD
      obtain ⟨e1, e2, e4, e5, e6, e3⟩ := re5 hm
      obtain ⟨hP, hD⟩ := x_eqg e1 e2 e4 hP hD
      refine W.widen (k := mc) (n := ms) (show kc_11 ≤ mc by omega) (show ks_12 ≤ ms by omega) ?_
      exact W.vret hx hb hr (fun t9 ht hW => ⟨⟨o_10, rfl, trivial, by rw [ht]; exact hP, hD⟩, hS.F ht⟩) hS.2.2 d_Reader_closeInputs_53

def m_Reader_closeList_b74 (n : Nat) (i : Nat → Int32) (a : Nat → Nat → Int32) (g : Nat → Nat) (v1 : Int32) : Option ((Nat → Int32) × (Nat → Nat → Int32) × (Nat → Nat) × (Nat × Nat) × Int32) := ob (m_Reader_blame n g i a (6 : Int32) v1) (fun i_2 a_3 r_4 => some (i_2, a_3, g, (0, 0), (0 : Int32)))
set_option maxHeartbeats 4000000 in
set_option maxRecDepth 100000 in
theorem lb_Reader_closeList_74 (l : Launch) (dC : Nat → ClassId) (dI : Nat → Nat → Nat) (cI : ClassId) (adK adV adA u : Nat → Nat) (n : Nat) {p : Program} {e : Env} {s : State} {m : MethodId} {args : Array Value} {below : List Frame} {meth : Method} {c : Code} {A : Nat → Prop} (hx : p.tables.exec = Jvm.exec) (hb : c.code = b_Reader_closeList) (hml : c.maxLocals = 4) (hown : s.vm.findClass R_Reader = some m.cls) (hts : ∀ w ∈ w_Reader_closeList, w.before args s = true) (hK : va_K (dC, dI) classes [(cI, .int)] s) (hE : tw_E adK adV adA A s s.heap) (hA : ∀ q : Nat, s.heap.size ≤ q → A q) (hr : meth.sig.returnType = none) (hlocks : meth.locks = false) {mc ms : Nat} {i2 : Nat → Int32} {a2 : Nat → Nat → Int32} {g2 : Nat → Nat} {r2 : Int32} (i : Nat → Int32) (a : Nat → Nat → Int32) (g : Nat → Nat) (v1 : Int32) (k2 : Nat × Nat) (hm : m_Reader_closeList_b74 n i a g v1 = some (i2, a2, g2, k2, r2)) : ∀ (o : Nat → Nat) (kc ks : Nat), kc + k2.1 = mc → ks + k2.2 = ms → ∀ (H : Heap) (locs : List Loc) (ls : Array Slot), va_P (dC, dI) classes (TW cI u o i a g) H → va_D A (TW cI u o i a g) → va_S A s.heap H locs → lv_has ls 4 [(0, .ref ((u 7))), (1, .int v1)] → W p l e ({ frames := 5, cells := mc, slots := ms, locals := 132 } : Room) s m args below meth c H locs kc ks (MQ below (va_Qv xVg (xBg dC dI cI u g2 i2 a2 A) A) args s mc ms A) (F0 m 74 ls []) := by
  have htt : ∀ w ∈ tw_T, w.before _ s = true := fun w h => hts w (List.mem_cons_of_mem _ h)
  intro o kc ks hkc hks H locs ls hP hD hS hl
  rw [m_Reader_closeList_b74] at hm
  refine lv_aload_n hx hb d_Reader_closeList_74 rfl (lv_at hl 0 rfl) ?_
  refine lv_bipush (v := 6) hx hb d_Reader_closeList_75 (by decide) ?_
  refine lv_iload_n hx hb d_Reader_closeList_77 rfl (lv_at hl 1 rfl) ?_
  obtain ⟨i_2, a_3, r_4, h_1, hm⟩ := ob_some hm
  have hFc := x_free hD hS hA
  refine xg_callv (va_runV (As := [.int 6, .int v1]) (rest := []) ⟨hx, hb, hml, hown, hts⟩ (x_Reader_blame l dC dI cI adK adV adA u o g H.size n h_1) (cwV 2 hts (tw_GV tw_cons cw_Reader_blame lk_Reader_54 in_Reader_blame sel_Reader_blame ini_Reader) rfl rfl rfl ⟨rfl, hd_Reader_blame⟩ ⟨Nat.le_of_ble_eq_true rfl, Nat.le_of_ble_eq_true rfl⟩) (xpV hK hP hD hS hE hFc xo_7 rfl) rfl rfl hl.1 rfl (lv_room (Nat.le_of_ble_eq_true rfl)) d_Reader_closeList_78 ⟨show kc + 0 ≤ mc by omega, show ks + 0 ≤ ms by omega⟩) hS (fun q _ h => hFc q h) hFc (fun kc_5 ks_6 u9 t9 H locs ekc eks ht hvm e9 hB hz1 hk1 hS => ?_)
  replace hkc : kc_5 + k2.1 = mc := by omega
  replace hks : ks_6 + k2.2 = ms := by omega
  clear ekc eks
  obtain ⟨hP, hD⟩ := x_aft hB ht hFc
  clear hFc hk1 hz1 hvm hB ht
  refine lv_goto (tgt := 89) hx hb d_Reader_closeList_81 (by decide) ?_
  obtain ⟨e1, e2, e4, e5, e6, e3⟩ := re5 hm
  obtain ⟨hP, hD⟩ := x_eqg e1 e2 e4 hP hD
  refine W.widen (k := mc) (n := ms) (show kc_5 ≤ mc by omega) (show ks_6 ≤ ms by omega) ?_
  exact W.vret hx hb hr (fun t9 ht hW => ⟨⟨o, rfl, trivial, by rw [ht]; exact hP, hD⟩, hS.F ht⟩) hS.2.2 d_Reader_closeList_89
def m_Reader_closeList (n : Nat) (g : Nat → Nat) (i : Nat → Int32) (a : Nat → Nat → Int32) (v1 : Int32) : Option ((Nat → Int32) × (Nat → Nat → Int32) × (Nat → Nat) × (Nat × Nat) × Int32) := if ((i 29)) = ((0 : Int32)) then ob (m_Reader_blame n g i a (4 : Int32) v1) (fun i_26 a_27 r_28 => some (i_26, a_27, g, (0, 0), (0 : Int32))) else ob1 ((i 29) - 1 : Int32) (fun x_2 => ob1 (upd i 29 x_2 : Nat → Int32) (fun i_3 => ck ((i_3 29)) 20 (ob1 (a 33 (i_3 29).toNatClampNeg : Int32) (fun x_5 => obG (m_Heap_newListOf_a32 n g i_3 a x_5 ((i_3 28) - x_5)) (fun i_7 a_8 g_9 r_11 => ob1 (upd i_7 28 x_5 : Nat → Int32) (fun i_16 => if ((600 : Int32)) < ((i_16 30)) then m_Reader_closeList_b74 n i_16 a_8 g_9 v1 else if r_11 = ((-2147483648 : Int32)) then m_Reader_closeList_b74 n i_16 a_8 g_9 v1 else ob (m_Reader_addMember n g_9 i_16 a_8 r_11) (fun i_20 a_21 r_22 => some (i_20, a_21, g_9, (0, 0), (0 : Int32)))))))))
set_option maxHeartbeats 4000000 in
set_option maxRecDepth 100000 in
theorem x_Reader_closeList (l : Launch) (dC : Nat → ClassId) (dI : Nat → Nat → Nat) (cI : ClassId) (adK adV adA u o g : Nat → Nat) (sz : Nat) (n : Nat) {i : Nat → Int32} {a : Nat → Nat → Int32} {v1 : Int32} {i2 : Nat → Int32} {a2 : Nat → Nat → Int32} {g2 : Nat → Nat} {k2 : Nat × Nat} {r2 : Int32} (hm : m_Reader_closeList n g i a v1 = some (i2, a2, g2, k2, r2)) : Met l y_Reader_closeList w_Reader_closeList ({ frames := 5, cells := k2.1, slots := k2.2, locals := 132 } : Room) (va_Pc [.ref ((u 7)), .int v1] (xE dC dI cI adK adV adA u o g i a sz)) (va_Qv xVg (xBg dC dI cI u g2 i2 a2 (va_A (TW cI u o i a g) sz)) (va_A (TW cI u o i a g) sz)) k2.1 k2.2 ((va_A (TW cI u o i a g) sz)) := by
  refine Met.ofW (cc := b_Reader_closeList) (maxL := 4) (ret := none) (by decide) rfl ?_
  intro p e s m args below meth c s₁ B hml hv
  obtain ⟨rfl, hsz, hP, hK, hE, hD0⟩ := hv
  have hx := B.exec
  have hb := B.bytes
  have hr := B.returns
  have hts := atoms_spec (ws := w_Reader_closeList) B.pre
  have htt : ∀ w ∈ tw_T, w.before _ s = true := fun w h => hts w (List.mem_cons_of_mem _ h)
  have hown : s.vm.findClass R_Reader = some m.cls := findClass_of_methodNamed B.named
  have hlocks := B.notSynchronized
  subst hsz
  have hD := hD0.self (sz := s.heap.size)
  generalize hAe : (va_A (TW cI u o i a g) s.heap.size) = A at hD hE ⊢
  have hA : ∀ q : Nat, s.heap.size ≤ q → A q := fun q h => by rw [← hAe]; exact Or.inr h
  have hS : va_S A s.heap s.heap [] := va_S.rf
  obtain ⟨mc, ms, emc, ems⟩ : ∃ mc ms : Nat, k2.1 = mc ∧ k2.2 = ms := ⟨_, _, rfl, rfl⟩
  have hkc : 0 + k2.1 = mc := by rw [Nat.zero_add]; exact emc
  have hks : 0 + k2.2 = ms := by rw [Nat.zero_add]; exact ems
  rw [emc, ems]
  clear emc ems
  have hl := lv_entry ([.ref ((u 7)), .int v1]) (n := 4) (Nat.le_of_ble_eq_true rfl)
  rw [lg_entry_eq]
  generalize (lg_sl ([.ref ((u 7)), .int v1]) ++ List.replicate (4 - (lg_sl ([.ref ((u 7)), .int v1])).length) Slot.unset).toArray = ls at hl ⊢
  have hl : lv_has ls 4 [(0, .ref ((u 7))), (1, .int v1)] := hl
  rw [m_Reader_closeList] at hm
  refine lv_aload_n hx hb d_Reader_closeList_0 rfl (lv_at hl 0 rfl) ?_
  refine va_get (D := (dC, dI)) (ci := 7) (v := .int (i 29)) (C := R_Reader) (T := F_Reader) (N := 19) hx hb htt iw_Reader hown hK hP 7 xo_7 rfl 10 (Nat.le_of_ble_eq_true rfl) (htt _ lk_Reader_78) (fun _ h9 => h9) xg_7_10 d_Reader_closeList_1 ?_
  refine lv_if_ne (tgt := 14) hx hb d_Reader_closeList_4 (by decide) (fun c_1 => ?_) (fun c_1 => ?_)
  · replace hm := if_f c_1 hm
    refine lv_aload_n hx hb d_Reader_closeList_14 rfl (lv_at hl 0 rfl) ?_
    refine lv_dup hx hb d_Reader_closeList_15 rfl ?_
    refine va_get (D := (dC, dI)) (ci := 7) (v := .int (i 29)) (C := R_Reader) (T := F_Reader) (N := 19) hx hb htt iw_Reader hown hK hP 7 xo_7 rfl 10 (Nat.le_of_ble_eq_true rfl) (htt _ lk_Reader_78) (fun _ h9 => h9) xg_7_10 d_Reader_closeList_16 ?_
    refine lv_iconst (v := 1) hx hb d_Reader_closeList_19 (by decide) ?_
    refine lv_isub hx hb d_Reader_closeList_20 ?_
    refine lv_topi (fun x_2 ex_2 => ?_)
    replace hm := ob1_at ex_2 hm
    refine va_put (D := (dC, dI)) (ci := 7) (v := .int x_2) (ty := .int) (C := R_Reader) (T := F_Reader) (N := 19) hx hb htt iw_Reader t_Reader t_Reader_ok n_Reader hown hK hP hD hS 7 xo_7 rfl 10 (Nat.le_of_ble_eq_true rfl) (htt _ lk_Reader_78) (fun _ h9 => h9) rfl (by decide +kernel) rfl rfl xl_7_10 d_Reader_closeList_21 (fun H locs hP hD hS => ?_)
    obtain ⟨i_3, ei_3⟩ : ∃ y9 : Nat → Int32, y9 = upd i 29 x_2 := ⟨_, rfl⟩
    replace hm := ob1_at ei_3 hm
    obtain ⟨hP, hD⟩ := xw_29 ei_3 hP hD
    refine lv_aload_n hx hb d_Reader_closeList_24 rfl (lv_at hl 0 rfl) ?_
    refine va_get (D := (dC, dI)) (ci := 7) (v := .ref ((u 43))) (C := R_Reader) (T := F_Reader) (N := 19) hx hb htt iw_Reader hown hK hP 7 xo_7 rfl 9 (Nat.le_of_ble_eq_true rfl) (htt _ lk_Reader_18) (fun _ h9 => h9) xg_7_9 d_Reader_closeList_25 ?_
    refine lv_aload_n hx hb d_Reader_closeList_28 rfl (lv_at hl 0 rfl) ?_
    refine va_get (D := (dC, dI)) (ci := 7) (v := .int (i_3 29)) (C := R_Reader) (T := F_Reader) (N := 19) hx hb htt iw_Reader hown hK hP 7 xo_7 rfl 10 (Nat.le_of_ble_eq_true rfl) (htt _ lk_Reader_78) (fun _ h9 => h9) xg_7_10 d_Reader_closeList_29 ?_
    obtain ⟨h_4, hm⟩ := ck_some hm
    refine va_iald hx hb hK hP 45 0 twA_33 rfl h_4 d_Reader_closeList_32 ?_
    refine lv_topi (fun x_5 ex_5 => ?_)
    replace hm := ob1_at ex_5 hm
    refine lv_istore_n (lv' := [(2, .int x_5), (0, .ref ((u 7))), (1, .int v1)]) hx hb d_Reader_closeList_33 rfl hl (by decide) rfl (fun ls hl => ?_)
    refine lv_aload_n hx hb d_Reader_closeList_34 rfl (lv_at hl 1 rfl) ?_
    refine va_get (D := (dC, dI)) (ci := 7) (v := .ref ((u 1))) (C := R_Reader) (T := F_Reader) (N := 19) hx hb htt iw_Reader hown hK hP 7 xo_7 rfl 0 (Nat.le_of_ble_eq_true rfl) (htt _ lk_Reader_30) (fun _ h9 => h9) xg_7_0 d_Reader_closeList_35 ?_
    refine lv_aload_n hx hb d_Reader_closeList_38 rfl (lv_at hl 1 rfl) ?_
    refine va_get (D := (dC, dI)) (ci := 7) (v := .ref ((u 42))) (C := R_Reader) (T := F_Reader) (N := 19) hx hb htt iw_Reader hown hK hP 7 xo_7 rfl 7 (Nat.le_of_ble_eq_true rfl) (htt _ lk_Reader_15) (fun _ h9 => h9) xg_7_7 d_Reader_closeList_39 ?_
    refine lv_iload_n hx hb d_Reader_closeList_42 rfl (lv_at hl 0 rfl) ?_
    refine lv_aload_n hx hb d_Reader_closeList_43 rfl (lv_at hl 1 rfl) ?_
    refine va_get (D := (dC, dI)) (ci := 7) (v := .int (i_3 28)) (C := R_Reader) (T := F_Reader) (N := 19) hx hb htt iw_Reader hown hK hP 7 xo_7 rfl 8 (Nat.le_of_ble_eq_true rfl) (htt _ lk_Reader_75) (fun _ h9 => h9) xg_7_8 d_Reader_closeList_44 ?_
    refine lv_iload_n hx hb d_Reader_closeList_47 rfl (lv_at hl 0 rfl) ?_
    refine lv_isub hx hb d_Reader_closeList_48 ?_
    obtain ⟨i_7, a_8, g_9, k_10, r_11, k_12, h_6, hm, e7, e8⟩ := obG_some hm
    have hFc := x_free hD hS hA
    refine xg_calli (va_runV (As := [.ref ((u 42)), .int x_5, .int ((i_3 28) - x_5)]) (rest := []) ⟨hx, hb, hml, hown, hts⟩ (x_Heap_newListOf_a32 l dC dI cI adK adV adA u o g H.size n h_6) (cwV 3 hts (tw_GV tw_cons cw_Heap_newListOf lk_Reader_123 in_Heap_newListOf sel_Heap_newListOf ini_Heap) rfl rfl rfl ⟨rfl, hd_Heap_newListOf⟩ ⟨Nat.le_of_ble_eq_true rfl, Nat.le_of_ble_eq_true rfl⟩) (xpV hK hP hD hS hE hFc xo_1 rfl) rfl rfl hl.1 rfl (lv_room (Nat.le_of_ble_eq_true rfl)) d_Reader_closeList_49 ⟨show 0 + k_10.1 ≤ mc by omega, show 0 + k_10.2 ≤ ms by omega⟩) hS (fun q _ h => hFc q h) hFc (fun kc_14 ks_15 r9 o_13 t9 H locs ekc eks ht hvm e9 hB hz1 hk1 hS => ?_)
    replace hkc : kc_14 + k_12.1 = mc := by omega
    replace hks : ks_15 + k_12.2 = ms := by omega
    clear e7 e8
    clear ekc eks
    have e9 : r_11 = r9 := e9
    subst e9
    obtain ⟨hP, hD⟩ := x_aftg hB ht hFc
    clear hFc hk1 hz1 hvm hB ht
    refine lv_istore_n (lv' := [(3, .int r_11), (2, .int x_5), (0, .ref ((u 7))), (1, .int v1)]) hx hb d_Reader_closeList_52 rfl hl (by decide) rfl (fun ls hl => ?_)
    refine lv_aload_n hx hb d_Reader_closeList_53 rfl (lv_at hl 2 rfl) ?_
    refine lv_iload_n hx hb d_Reader_closeList_54 rfl (lv_at hl 1 rfl) ?_
    refine va_put (D := (dC, dI)) (ci := 7) (v := .int x_5) (ty := .int) (C := R_Reader) (T := F_Reader) (N := 19) hx hb htt iw_Reader t_Reader t_Reader_ok n_Reader hown hK hP hD hS 7 xo_7 rfl 8 (Nat.le_of_ble_eq_true rfl) (htt _ lk_Reader_75) (fun _ h9 => h9) rfl (by decide +kernel) rfl rfl xl_7_8 d_Reader_closeList_55 (fun H locs hP hD hS => ?_)
    obtain ⟨i_16, ei_16⟩ : ∃ y9 : Nat → Int32, y9 = upd i_7 28 x_5 := ⟨_, rfl⟩
    replace hm := ob1_at ei_16 hm
    obtain ⟨hP, hD⟩ := xw_28 ei_16 hP hD
    refine lv_aload_n hx hb d_Reader_closeList_58 rfl (lv_at hl 2 rfl) ?_
    refine va_get (D := (dC, dI)) (ci := 7) (v := .int (i_16 30)) (C := R_Reader) (T := F_Reader) (N := 19) hx hb htt iw_Reader hown hK hP 7 xo_7 rfl 11 (Nat.le_of_ble_eq_true rfl) (htt _ lk_Reader_81) (fun _ h9 => h9) xg_7_11 d_Reader_closeList_59 ?_
    refine lv_sipush (v := 600) hx hb d_Reader_closeList_62 (by decide) ?_
    refine lv_icmp_gt (tgt := 74) hx hb d_Reader_closeList_65 (by decide) (fun c_17 => ?_) (fun c_17 => ?_)
    · replace hm := if_t c_17 hm
      exact lb_Reader_closeList_74 l dC dI cI adK adV adA u n hx hb hml hown hts hK hE hA hr hlocks _ _ _ _ _ hm o_13 kc_14 ks_15 hkc hks _ _ _ hP hD hS (lv_sub hl [2, 3] rfl)
    · replace hm := if_f c_17 hm
      refine lv_iload_n hx hb d_Reader_closeList_68 rfl (lv_at hl 0 rfl) ?_
      refine lv_ldc (v := (-2147483648)) hx hb hown (htt _ lk_Reader_127) d_Reader_closeList_69 ?_
      refine lv_icmp_ne (tgt := 84) hx hb d_Reader_closeList_71 (by decide) (fun c_18 => ?_) (fun c_18 => ?_)
      · replace hm := if_f c_18 hm
        refine lv_aload_n hx hb d_Reader_closeList_84 rfl (lv_at hl 2 rfl) ?_
        refine lv_iload_n hx hb d_Reader_closeList_85 rfl (lv_at hl 0 rfl) ?_
        obtain ⟨i_20, a_21, r_22, h_19, hm⟩ := ob_some hm
        have hFc := x_free hD hS hA
        refine xg_callv (va_runV (As := [.int r_11]) (rest := []) ⟨hx, hb, hml, hown, hts⟩ (x_Reader_addMember l dC dI cI adK adV adA u o_13 g_9 H.size n h_19) (cwV 1 hts (tw_GV tw_cons cw_Reader_addMember lk_Reader_128 in_Reader_addMember sel_Reader_addMember ini_Reader) rfl rfl rfl ⟨rfl, hd_Reader_addMember⟩ ⟨Nat.le_of_ble_eq_true rfl, Nat.le_of_ble_eq_true rfl⟩) (xpV hK hP hD hS hE hFc xo_7 rfl) rfl rfl hl.1 rfl (lv_room (Nat.le_of_ble_eq_true rfl)) d_Reader_closeList_86 ⟨show kc_14 + 0 ≤ mc by omega, show ks_15 + 0 ≤ ms by omega⟩) hS (fun q _ h => hFc q h) hFc (fun kc_23 ks_24 u9 t9 H locs ekc eks ht hvm e9 hB hz1 hk1 hS => ?_)
        replace hkc : kc_23 + k_12.1 = mc := by omega
        replace hks : ks_24 + k_12.2 = ms := by omega
        clear ekc eks
        obtain ⟨hP, hD⟩ := x_aft hB ht hFc
        clear hFc hk1 hz1 hvm hB ht
        obtain ⟨e1, e2, e4, e5, e6, e3⟩ := re5 hm
        obtain ⟨hP, hD⟩ := x_eqg e1 e2 e4 hP hD
        refine W.widen (k := mc) (n := ms) (show kc_23 ≤ mc by omega) (show ks_24 ≤ ms by omega) ?_
        exact W.vret hx hb hr (fun t9 ht hW => ⟨⟨o_13, rfl, trivial, by rw [ht]; exact hP, hD⟩, hS.F ht⟩) hS.2.2 d_Reader_closeList_89
      · replace hm := if_t c_18 hm
        exact lb_Reader_closeList_74 l dC dI cI adK adV adA u n hx hb hml hown hts hK hE hA hr hlocks _ _ _ _ _ hm o_13 kc_14 ks_15 hkc hks _ _ _ hP hD hS (lv_sub hl [2, 3] rfl)
  · replace hm := if_t c_1 hm
    refine lv_aload_n hx hb d_Reader_closeList_7 rfl (lv_at hl 0 rfl) ?_
    refine lv_iconst (v := 4) hx hb d_Reader_closeList_8 (by decide) ?_
    refine lv_iload_n hx hb d_Reader_closeList_9 rfl (lv_at hl 1 rfl) ?_
    obtain ⟨i_26, a_27, r_28, h_25, hm⟩ := ob_some hm
    have hFc := x_free hD hS hA
    refine xg_callv (va_runV (As := [.int 4, .int v1]) (rest := []) ⟨hx, hb, hml, hown, hts⟩ (x_Reader_blame l dC dI cI adK adV adA u o g s.heap.size n h_25) (cwV 2 hts (tw_GV tw_cons cw_Reader_blame lk_Reader_54 in_Reader_blame sel_Reader_blame ini_Reader) rfl rfl rfl ⟨rfl, hd_Reader_blame⟩ ⟨Nat.le_of_ble_eq_true rfl, Nat.le_of_ble_eq_true rfl⟩) (xpV hK hP hD hS hE hFc xo_7 rfl) rfl rfl hl.1 rfl (lv_room (Nat.le_of_ble_eq_true rfl)) d_Reader_closeList_10 ⟨show 0 + 0 ≤ mc by omega, show 0 + 0 ≤ ms by omega⟩) hS (fun q _ h => hFc q h) hFc (fun kc_29 ks_30 u9 t9 H locs ekc eks ht hvm e9 hB hz1 hk1 hS => ?_)
    replace hkc : kc_29 + k2.1 = mc := by omega
    replace hks : ks_30 + k2.2 = ms := by omega
    clear ekc eks
    obtain ⟨hP, hD⟩ := x_aft hB ht hFc
    clear hFc hk1 hz1 hvm hB ht
    obtain ⟨e1, e2, e4, e5, e6, e3⟩ := re5 hm
    obtain ⟨hP, hD⟩ := x_eqg e1 e2 e4 hP hD
    refine W.widen (k := mc) (n := ms) (show kc_29 ≤ mc by omega) (show ks_30 ≤ ms by omega) ?_
    exact W.vret hx hb hr (fun t9 ht hW => ⟨⟨o, rfl, trivial, by rw [ht]; exact hP, hD⟩, hS.F ht⟩) hS.2.2 d_Reader_closeList_13

def m_Heap_numberIn_a31_b40 (n : Nat) (g : Nat → Nat) (i : Nat → Int32) (a : Nat → Nat → Int32) : Nat → Int32 → Int32 → Int32 → Int64 → Int32 → Option (Int32)
  | 0, _, _, _, _, _ => none
  | f + 1, v1, v2, v3, v4, v6 => if v2 ≤ v6 then if v3 = v2 then some ((-2147483648)) else if ((lg_cmp v4 1000000000)) ≤ ((0 : Int32)) then if v3 ≤ v1 then ob0 (m_Heap_number n v4.toInt32) (fun r_6 => some r_6) else ob0 (m_Heap_number n ((-v4).toInt32)) (fun r_8 => some r_8) else some ((-2147483639)) else ck v6 4000 (ob1 ((a 31 v6.toNatClampNeg) - 48 : Int32) (fun x_10 => if x_10 < ((0 : Int32)) then some ((-2147483648)) else if x_10 ≤ ((9 : Int32)) then ob0 (m_Math_min2 n ((10 * v4) + x_10.toInt64) (1000000001 : Int64)) (fun r_14 => ob1 (v6 + 1 : Int32) (fun x_15 => m_Heap_numberIn_a31_b40 n g i a f v1 v2 v3 r_14 x_15)) else some ((-2147483648))))
set_option maxHeartbeats 4000000 in
set_option maxRecDepth 100000 in
theorem lb_Heap_numberIn_a31_40 (l : Launch) (dC : Nat → ClassId) (dI : Nat → Nat → Nat) (cI : ClassId) (adK adV adA u o g : Nat → Nat) (n : Nat) {p : Program} {e : Env} {s : State} {m : MethodId} {args : Array Value} {below : List Frame} {meth : Method} {c : Code} {A : Nat → Prop} (hx : p.tables.exec = Jvm.exec) (hb : c.code = b_Heap_numberIn) (hml : c.maxLocals = 8) (hown : s.vm.findClass R_Heap = some m.cls) (hts : ∀ w ∈ w_Heap_numberIn, w.before args s = true) (hK : va_K (dC, dI) classes [(cI, .int)] s) (hE : tw_E adK adV adA A s s.heap) (hA : ∀ q : Nat, s.heap.size ≤ q → A q) (hr : meth.sig.returnType = (some .int)) (hlocks : meth.locks = false) {i : Nat → Int32} {a : Nat → Nat → Int32} {r2 : Int32} : ∀ (f : Nat) (v1 : Int32) (v2 : Int32) (v3 : Int32) (v4 : Int64) (v6 : Int32), m_Heap_numberIn_a31_b40 n g i a f v1 v2 v3 v4 v6 = some r2 → ∀ (H : Heap) (locs : List Loc) (ls : Array Slot), va_P (dC, dI) classes (TW cI u o i a g) H → va_S A s.heap H locs → lv_has ls 8 [(0, .ref ((u 41))), (1, .int v1), (2, .int v2), (3, .int v3), (4, .long v4), (6, .int v6)] → W p l e ({ frames := 1, cells := 0, slots := 0, locals := 23 } : Room) s m args below meth c H locs 0 0 (MQ below (va_Qi (xR r2) xT A) args s 0 0 A) (F0 m 40 ls []) := by
  have htt : ∀ w ∈ tw_T, w.before _ s = true := fun w h => hts w (List.mem_cons_of_mem _ h)
  intro f
  induction f with
  | zero =>
    intro v1 v2 v3 v4 v6 hm
    rw [m_Heap_numberIn_a31_b40] at hm
    cases hm
  | succ f ih =>
    intro v1 v2 v3 v4 v6 hm H locs ls hP hS hl
    rw [m_Heap_numberIn_a31_b40] at hm
    refine lv_iload hx hb d_Heap_numberIn_40 (lv_at hl 5 rfl) ?_
    refine lv_iload_n hx hb d_Heap_numberIn_42 rfl (lv_at hl 2 rfl) ?_
    refine lv_icmp_ge (tgt := 94) hx hb d_Heap_numberIn_43 (by decide) (fun c_1 => ?_) (fun c_1 => ?_)
    · replace hm := if_t c_1 hm
      refine lv_iload_n hx hb d_Heap_numberIn_94 rfl (lv_at hl 3 rfl) ?_
      refine lv_iload_n hx hb d_Heap_numberIn_95 rfl (lv_at hl 2 rfl) ?_
      refine lv_icmp_ne (tgt := 102) hx hb d_Heap_numberIn_96 (by decide) (fun c_2 => ?_) (fun c_2 => ?_)
      · replace hm := if_f c_2 hm
        refine lv_lload hx hb d_Heap_numberIn_102 (lv_at hl 4 rfl) ?_
        refine lv_ldc2 (v := 1000000000) hx hb hown (htt _ lk_Heap_82) d_Heap_numberIn_104 ?_
        refine W.lcmp hx hb d_Heap_numberIn_107 ?_
        refine lv_if_le (tgt := 114) hx hb d_Heap_numberIn_108 (by decide) (fun c_3 => ?_) (fun c_3 => ?_)
        · replace hm := if_t c_3 hm
          refine lv_iload_n hx hb d_Heap_numberIn_114 rfl (lv_at hl 3 rfl) ?_
          refine lv_iload_n hx hb d_Heap_numberIn_115 rfl (lv_at hl 1 rfl) ?_
          refine lv_icmp_le (tgt := 125) hx hb d_Heap_numberIn_116 (by decide) (fun c_4 => ?_) (fun c_4 => ?_)
          · replace hm := if_t c_4 hm
            refine lv_lload hx hb d_Heap_numberIn_125 (lv_at hl 4 rfl) ?_
            refine lv_l2i hx hb d_Heap_numberIn_127 rfl ?_
            obtain ⟨r_6, h_5, hm⟩ := ob0_some hm
            have hFc := x_free0 hS hA
            refine va_calli (va_runS (As := [.int v4.toInt32]) (rest := []) ⟨hx, hb, hml, hown, hts⟩ (x_Heap_number l H.size n h_5) (va_cwS 1 hts (tw_GS tw_cons cw_Heap_number lk_Heap_85 st_Heap_number ini_Heap) rfl rfl rfl hd_Heap_number ⟨Nat.le_of_ble_eq_true rfl, Nat.le_of_ble_eq_true rfl⟩) xpS0 rfl rfl hl.1 rfl (lv_room (Nat.le_of_ble_eq_true rfl)) d_Heap_numberIn_128 ⟨Nat.le_of_ble_eq_true rfl, Nat.le_of_ble_eq_true rfl⟩) hS (fun q _ h => hFc q h) hFc (fun r9 u9 t9 H locs ht hvm e9 hB hz1 hk1 hS => ?_)
            have e9 : r_6 = r9 := e9
            subst e9
            replace hP := x_keep hP hk1
            clear hFc hk1 hz1 hvm hB ht
            have e3 := re1 hm
            exact W.iret hx hb hr (fun t9 ht hW => ⟨⟨_, (), rfl, e3.symm, trivial⟩, hS.F ht⟩) hS.2.2 d_Heap_numberIn_131
          · replace hm := if_f c_4 hm
            refine lv_lload hx hb d_Heap_numberIn_119 (lv_at hl 4 rfl) ?_
            refine lv_lneg hx hb d_Heap_numberIn_121 ?_
            refine lv_goto (tgt := 127) hx hb d_Heap_numberIn_122 (by decide) ?_
            refine lv_l2i hx hb d_Heap_numberIn_127 rfl ?_
            obtain ⟨r_8, h_7, hm⟩ := ob0_some hm
            have hFc := x_free0 hS hA
            refine va_calli (va_runS (As := [.int ((-v4).toInt32)]) (rest := []) ⟨hx, hb, hml, hown, hts⟩ (x_Heap_number l H.size n h_7) (va_cwS 1 hts (tw_GS tw_cons cw_Heap_number lk_Heap_85 st_Heap_number ini_Heap) rfl rfl rfl hd_Heap_number ⟨Nat.le_of_ble_eq_true rfl, Nat.le_of_ble_eq_true rfl⟩) xpS0 rfl rfl hl.1 rfl (lv_room (Nat.le_of_ble_eq_true rfl)) d_Heap_numberIn_128 ⟨Nat.le_of_ble_eq_true rfl, Nat.le_of_ble_eq_true rfl⟩) hS (fun q _ h => hFc q h) hFc (fun r9 u9 t9 H locs ht hvm e9 hB hz1 hk1 hS => ?_)
            have e9 : r_8 = r9 := e9
            subst e9
            replace hP := x_keep hP hk1
            clear hFc hk1 hz1 hvm hB ht
            have e3 := re1 hm
            exact W.iret hx hb hr (fun t9 ht hW => ⟨⟨_, (), rfl, e3.symm, trivial⟩, hS.F ht⟩) hS.2.2 d_Heap_numberIn_131
        · replace hm := if_f c_3 hm
          refine lv_ldc (v := (-2147483639)) hx hb hown (htt _ lk_Heap_84) d_Heap_numberIn_111 ?_
          have e3 := re1 hm
          exact W.iret hx hb hr (fun t9 ht hW => ⟨⟨_, (), rfl, e3.symm, trivial⟩, hS.F ht⟩) hS.2.2 d_Heap_numberIn_113
      · replace hm := if_t c_2 hm
        refine lv_ldc (v := (-2147483648)) hx hb hown (htt _ lk_Heap_71) d_Heap_numberIn_99 ?_
        have e3 := re1 hm
        exact W.iret hx hb hr (fun t9 ht hW => ⟨⟨_, (), rfl, e3.symm, trivial⟩, hS.F ht⟩) hS.2.2 d_Heap_numberIn_101
    · replace hm := if_f c_1 hm
      refine lv_aload_n hx hb d_Heap_numberIn_46 rfl (lv_at hl 0 rfl) ?_
      refine lv_iload hx hb d_Heap_numberIn_47 (lv_at hl 5 rfl) ?_
      obtain ⟨h_9, hm⟩ := ck_some hm
      refine va_iald hx hb hK hP 43 0 twA_31 rfl h_9 d_Heap_numberIn_49 ?_
      refine lv_bipush (v := 48) hx hb d_Heap_numberIn_50 (by decide) ?_
      refine lv_isub hx hb d_Heap_numberIn_52 ?_
      refine lv_topi (fun x_10 ex_10 => ?_)
      replace hm := ob1_at ex_10 hm
      refine lv_istore (lv' := [(7, .int x_10), (0, .ref ((u 41))), (1, .int v1), (2, .int v2), (3, .int v3), (4, .long v4), (6, .int v6)]) hx hb d_Heap_numberIn_53 hl (by decide) rfl (fun ls hl => ?_)
      refine lv_iload hx hb d_Heap_numberIn_55 (lv_at hl 0 rfl) ?_
      refine lv_if_lt (tgt := 67) hx hb d_Heap_numberIn_57 (by decide) (fun c_11 => ?_) (fun c_11 => ?_)
      · replace hm := if_t c_11 hm
        refine lv_ldc (v := (-2147483648)) hx hb hown (htt _ lk_Heap_71) d_Heap_numberIn_67 ?_
        have e3 := re1 hm
        exact W.iret hx hb hr (fun t9 ht hW => ⟨⟨_, (), rfl, e3.symm, trivial⟩, hS.F ht⟩) hS.2.2 d_Heap_numberIn_69
      · replace hm := if_f c_11 hm
        refine lv_iload hx hb d_Heap_numberIn_60 (lv_at hl 0 rfl) ?_
        refine lv_bipush (v := 9) hx hb d_Heap_numberIn_62 (by decide) ?_
        refine lv_icmp_le (tgt := 70) hx hb d_Heap_numberIn_64 (by decide) (fun c_12 => ?_) (fun c_12 => ?_)
        · replace hm := if_t c_12 hm
          refine lv_ldc2 (v := 10) hx hb hown (htt _ lk_Heap_72) d_Heap_numberIn_70 ?_
          refine lv_lload hx hb d_Heap_numberIn_73 (lv_at hl 5 rfl) ?_
          refine lv_lmul hx hb d_Heap_numberIn_75 ?_
          refine lv_iload hx hb d_Heap_numberIn_76 (lv_at hl 0 rfl) ?_
          refine lv_i2l hx hb d_Heap_numberIn_78 rfl ?_
          refine lv_ladd hx hb d_Heap_numberIn_79 ?_
          refine lv_ldc2 (v := 1000000001) hx hb hown (htt _ lk_Heap_74) d_Heap_numberIn_80 ?_
          obtain ⟨r_14, h_13, hm⟩ := ob0_some hm
          have hFc := x_free0 hS hA
          refine va_calll (va_runS (As := [.long ((10 * v4) + x_10.toInt64), .long 1000000001]) (rest := []) ⟨hx, hb, hml, hown, hts⟩ (x_Math_min2 l H.size n h_13) (va_cwS 2 hts (tw_GS tw_cons cw_Math_min2 lk_Heap_76 st_Math_min2 ini_Math) rfl rfl rfl hd_Math_min2 ⟨Nat.le_of_ble_eq_true rfl, Nat.le_of_ble_eq_true rfl⟩) xpS0 rfl rfl hl.1 rfl (lv_room (Nat.le_of_ble_eq_true rfl)) d_Heap_numberIn_83 ⟨Nat.le_of_ble_eq_true rfl, Nat.le_of_ble_eq_true rfl⟩) hS (fun q _ h => hFc q h) hFc (fun r9 u9 t9 H locs ht hvm e9 hB hz1 hk1 hS => ?_)
          have e9 : r_14 = r9 := e9
          subst e9
          replace hP := x_keep hP hk1
          clear hFc hk1 hz1 hvm hB ht
          refine lv_lstore (lv' := [(4, .long r_14), (7, .int x_10), (0, .ref ((u 41))), (1, .int v1), (2, .int v2), (3, .int v3), (6, .int v6)]) hx hb d_Heap_numberIn_86 hl (by decide) rfl (fun ls hl => ?_)
          obtain ⟨x_15, ex_15⟩ : ∃ y9 : Int32, y9 = v6 + 1 := ⟨_, rfl⟩
          replace hm := ob1_at ex_15 hm
          refine lv_iinc (v := x_15) (lv' := [(6, .int x_15), (4, .long r_14), (7, .int x_10), (0, .ref ((u 41))), (1, .int v1), (2, .int v2), (3, .int v3)]) hx hb d_Heap_numberIn_88 hl (k := 6) rfl (by rw [ex_15]; rfl) (by decide) rfl (fun ls hl => ?_)
          refine lv_goto (tgt := 40) hx hb d_Heap_numberIn_91 (by decide) ?_
          exact ih _ _ _ _ _ hm _ _ _ hP hS (lv_sub hl [3, 4, 5, 6, 1, 0] rfl)
        · replace hm := if_f c_12 hm
          refine lv_ldc (v := (-2147483648)) hx hb hown (htt _ lk_Heap_71) d_Heap_numberIn_67 ?_
          have e3 := re1 hm
          exact W.iret hx hb hr (fun t9 ht hW => ⟨⟨_, (), rfl, e3.symm, trivial⟩, hS.F ht⟩) hS.2.2 d_Heap_numberIn_69
def m_Heap_numberIn_a31_b33 (n : Nat) (g : Nat → Nat) (i : Nat → Int32) (a : Nat → Nat → Int32) (v1 : Int32) (v2 : Int32) (s0 : Int32) : Option (Int32) := m_Heap_numberIn_a31_b40 n g i a n v1 v2 s0 (0 : Int64) s0
set_option maxHeartbeats 4000000 in
set_option maxRecDepth 100000 in
theorem lb_Heap_numberIn_a31_33 (l : Launch) (dC : Nat → ClassId) (dI : Nat → Nat → Nat) (cI : ClassId) (adK adV adA u o g : Nat → Nat) (n : Nat) {p : Program} {e : Env} {s : State} {m : MethodId} {args : Array Value} {below : List Frame} {meth : Method} {c : Code} {A : Nat → Prop} (hx : p.tables.exec = Jvm.exec) (hb : c.code = b_Heap_numberIn) (hml : c.maxLocals = 8) (hown : s.vm.findClass R_Heap = some m.cls) (hts : ∀ w ∈ w_Heap_numberIn, w.before args s = true) (hK : va_K (dC, dI) classes [(cI, .int)] s) (hE : tw_E adK adV adA A s s.heap) (hA : ∀ q : Nat, s.heap.size ≤ q → A q) (hr : meth.sig.returnType = (some .int)) (hlocks : meth.locks = false) {i : Nat → Int32} {a : Nat → Nat → Int32} {r2 : Int32} (v1 : Int32) (v2 : Int32) (s0 : Int32) (hm : m_Heap_numberIn_a31_b33 n g i a v1 v2 s0 = some r2) : ∀ (H : Heap) (locs : List Loc) (ls : Array Slot), va_P (dC, dI) classes (TW cI u o i a g) H → va_S A s.heap H locs → lv_has ls 8 [(0, .ref ((u 41))), (1, .int v1), (2, .int v2)] → W p l e ({ frames := 1, cells := 0, slots := 0, locals := 23 } : Room) s m args below meth c H locs 0 0 (MQ below (va_Qi (xR r2) xT A) args s 0 0 A) (F0 m 33 ls [.int s0]) := by
  have htt : ∀ w ∈ tw_T, w.before _ s = true := fun w h => hts w (List.mem_cons_of_mem _ h)
  intro H locs ls hP hS hl
  rw [m_Heap_numberIn_a31_b33] at hm
  refine lv_istore_n (lv' := [(3, .int s0), (0, .ref ((u 41))), (1, .int v1), (2, .int v2)]) hx hb d_Heap_numberIn_33 rfl hl (by decide) rfl (fun ls hl => ?_)
  refine lv_lconst (v := 0) hx hb d_Heap_numberIn_34 (by decide) ?_
  refine lv_lstore (lv' := [(4, .long 0), (3, .int s0), (0, .ref ((u 41))), (1, .int v1), (2, .int v2)]) hx hb d_Heap_numberIn_35 hl (by decide) rfl (fun ls hl => ?_)
  refine lv_iload_n hx hb d_Heap_numberIn_37 rfl (lv_at hl 1 rfl) ?_
  refine lv_istore (lv' := [(6, .int s0), (4, .long 0), (3, .int s0), (0, .ref ((u 41))), (1, .int v1), (2, .int v2)]) hx hb d_Heap_numberIn_38 hl (by decide) rfl (fun ls hl => ?_)
  exact lb_Heap_numberIn_a31_40 l dC dI cI adK adV adA u o g n hx hb hml hown hts hK hE hA hr hlocks n _ _ _ _ _ hm _ _ _ hP hS (lv_sub hl [3, 4, 5, 2, 1, 0] rfl)
def m_Heap_numberIn_a31 (n : Nat) (g : Nat → Nat) (i : Nat → Int32) (a : Nat → Nat → Int32) (v1 : Int32) (v2 : Int32) : Option (Int32) := if v1 < ((0 : Int32)) then some ((-2147483648)) else if ((nI 4000)) < v2 then some ((-2147483648)) else if v1 < v2 then ck v1 4000 (if ((a 31 v1.toNatClampNeg)) = ((45 : Int32)) then m_Heap_numberIn_a31_b33 n g i a v1 v2 (v1 + 1) else m_Heap_numberIn_a31_b33 n g i a v1 v2 v1) else some ((-2147483648))
set_option maxHeartbeats 4000000 in
set_option maxRecDepth 100000 in
theorem x_Heap_numberIn_a31 (l : Launch) (dC : Nat → ClassId) (dI : Nat → Nat → Nat) (cI : ClassId) (adK adV adA u o g : Nat → Nat) (sz : Nat) (n : Nat) {i : Nat → Int32} {a : Nat → Nat → Int32} {v1 : Int32} {v2 : Int32} {r2 : Int32} (hm : m_Heap_numberIn_a31 n g i a v1 v2 = some r2) : Met l y_Heap_numberIn w_Heap_numberIn ({ frames := 1, cells := 0, slots := 0, locals := 23 } : Room) (va_Pc [.ref ((u 41)), .int v1, .int v2] (xEr dC dI cI adK adV adA u o g i a sz)) (va_Qi (xR r2) xT (xN sz)) 0 0 (xN sz) := by
  refine Met.ofW (cc := b_Heap_numberIn) (maxL := 8) (ret := (some .int)) (by decide) rfl ?_
  intro p e s m args below meth c s₁ B hml hv
  obtain ⟨rfl, hsz, hP, hK, hE⟩ := hv
  have hx := B.exec
  have hb := B.bytes
  have hr := B.returns
  have hts := atoms_spec (ws := w_Heap_numberIn) B.pre
  have htt : ∀ w ∈ tw_T, w.before _ s = true := fun w h => hts w (List.mem_cons_of_mem _ h)
  have hown : s.vm.findClass R_Heap = some m.cls := findClass_of_methodNamed B.named
  have hlocks := B.notSynchronized
  subst hsz
  generalize hAe : xN s.heap.size = A at hE ⊢
  have hA : ∀ q : Nat, s.heap.size ≤ q → A q := fun q h => by rw [← hAe]; exact Or.inr h
  have hS : va_S A s.heap s.heap [] := va_S.rf
  have hl := lv_entry ([.ref ((u 41)), .int v1, .int v2]) (n := 8) (Nat.le_of_ble_eq_true rfl)
  rw [lg_entry_eq]
  generalize (lg_sl ([.ref ((u 41)), .int v1, .int v2]) ++ List.replicate (8 - (lg_sl ([.ref ((u 41)), .int v1, .int v2])).length) Slot.unset).toArray = ls at hl ⊢
  have hl : lv_has ls 8 [(0, .ref ((u 41))), (1, .int v1), (2, .int v2)] := hl
  rw [m_Heap_numberIn_a31] at hm
  refine lv_iload_n hx hb d_Heap_numberIn_0 rfl (lv_at hl 1 rfl) ?_
  refine lv_if_lt (tgt := 15) hx hb d_Heap_numberIn_1 (by decide) (fun c_1 => ?_) (fun c_1 => ?_)
  · replace hm := if_t c_1 hm
    refine lv_ldc (v := (-2147483648)) hx hb hown (htt _ lk_Heap_71) d_Heap_numberIn_15 ?_
    have e3 := re1 hm
    exact W.iret hx hb hr (fun t9 ht hW => ⟨⟨_, (), rfl, e3.symm, trivial⟩, hS.F ht⟩) hS.2.2 d_Heap_numberIn_17
  · replace hm := if_f c_1 hm
    refine lv_iload_n hx hb d_Heap_numberIn_4 rfl (lv_at hl 2 rfl) ?_
    refine lv_aload_n hx hb d_Heap_numberIn_5 rfl (lv_at hl 0 rfl) ?_
    refine va_alen (v := nI 4000) hx hb hK hP 43 0 twA_31 rfl rfl d_Heap_numberIn_6 ?_
    refine lv_icmp_gt (tgt := 15) hx hb d_Heap_numberIn_7 (by decide) (fun c_2 => ?_) (fun c_2 => ?_)
    · replace hm := if_t c_2 hm
      refine lv_ldc (v := (-2147483648)) hx hb hown (htt _ lk_Heap_71) d_Heap_numberIn_15 ?_
      have e3 := re1 hm
      exact W.iret hx hb hr (fun t9 ht hW => ⟨⟨_, (), rfl, e3.symm, trivial⟩, hS.F ht⟩) hS.2.2 d_Heap_numberIn_17
    · replace hm := if_f c_2 hm
      refine lv_iload_n hx hb d_Heap_numberIn_10 rfl (lv_at hl 1 rfl) ?_
      refine lv_iload_n hx hb d_Heap_numberIn_11 rfl (lv_at hl 2 rfl) ?_
      refine lv_icmp_lt (tgt := 18) hx hb d_Heap_numberIn_12 (by decide) (fun c_3 => ?_) (fun c_3 => ?_)
      · replace hm := if_t c_3 hm
        refine lv_aload_n hx hb d_Heap_numberIn_18 rfl (lv_at hl 0 rfl) ?_
        refine lv_iload_n hx hb d_Heap_numberIn_19 rfl (lv_at hl 1 rfl) ?_
        obtain ⟨h_4, hm⟩ := ck_some hm
        refine va_iald hx hb hK hP 43 0 twA_31 rfl h_4 d_Heap_numberIn_20 ?_
        refine lv_bipush (v := 45) hx hb d_Heap_numberIn_21 (by decide) ?_
        refine lv_icmp_ne (tgt := 32) hx hb d_Heap_numberIn_23 (by decide) (fun c_5 => ?_) (fun c_5 => ?_)
        · replace hm := if_f c_5 hm
          refine lv_iload_n hx hb d_Heap_numberIn_32 rfl (lv_at hl 1 rfl) ?_
          exact lb_Heap_numberIn_a31_33 l dC dI cI adK adV adA u o g n hx hb hml hown hts hK hE hA hr hlocks _ _ _ hm _ _ _ hP hS (lv_sub hl [0, 1, 2] rfl)
        · replace hm := if_t c_5 hm
          refine lv_iload_n hx hb d_Heap_numberIn_26 rfl (lv_at hl 1 rfl) ?_
          refine lv_iconst (v := 1) hx hb d_Heap_numberIn_27 (by decide) ?_
          refine lv_iadd hx hb d_Heap_numberIn_28 ?_
          refine lv_goto (tgt := 33) hx hb d_Heap_numberIn_29 (by decide) ?_
          exact lb_Heap_numberIn_a31_33 l dC dI cI adK adV adA u o g n hx hb hml hown hts hK hE hA hr hlocks _ _ _ hm _ _ _ hP hS (lv_sub hl [0, 1, 2] rfl)
      · replace hm := if_f c_3 hm
        refine lv_ldc (v := (-2147483648)) hx hb hown (htt _ lk_Heap_71) d_Heap_numberIn_15 ?_
        have e3 := re1 hm
        exact W.iret hx hb hr (fun t9 ht hW => ⟨⟨_, (), rfl, e3.symm, trivial⟩, hS.F ht⟩) hS.2.2 d_Heap_numberIn_17

def m_Heap_newWord_a31 (n : Nat) (g : Nat → Nat) (i : Nat → Int32) (a : Nat → Nat → Int32) (v2 : Int32) (v3 : Int32) : Option ((Nat → Int32) × (Nat → Nat → Int32) × (Nat → Nat) × (Nat × Nat) × Int32) := if v2 < ((0 : Int32)) then some (i, a, g, (0, 0), (-2147483648)) else if v3 < ((1 : Int32)) then some (i, a, g, (0, 0), (-2147483648)) else if (((nI 4000) - v2)) < v3 then some (i, a, g, (0, 0), (-2147483648)) else obG (m_Heap_reserve n g i a (v3 + 2)) (fun i_5 a_6 g_7 r_9 => if r_9 = ((0 : Int32)) then some (i_5, a_6, g_7, (0, 0), (-2147483648)) else ob1 ((i_5 8) + 1 : Int32) (fun x_15 => cy v2 x_15 v3 4000 (g_7 0) (ob1 (updA a_6 0 (va_cpy (a_6 31) (a_6 0) v2.toNatClampNeg x_15.toNatClampNeg v3.toNatClampNeg) : Nat → Nat → Int32) (fun a_17 => ck ((x_15 + v3)) (g_7 0) (ob1 (sv a_17 0 (x_15 + v3).toNatClampNeg 0 : Nat → Nat → Int32) (fun a_19 => ob0 (m_Lexicon_meaning_a0 n g_7 i_5 a_19 x_15) (fun r_21 => ck ((i_5 8)) (g_7 0) (ob1 (sv a_19 0 (i_5 8).toNatClampNeg (128 + r_21) : Nat → Nat → Int32) (fun a_25 => ob1 ((x_15 + v3) + 1 : Int32) (fun x_26 => ob1 (upd i_5 8 x_26 : Nat → Int32) (fun i_27 => some (i_27, a_25, g_7, (0, 0), (x_15 <<< ((2 : Int32) &&& 31)) ||| 3))))))))))))
set_option maxHeartbeats 4000000 in
set_option maxRecDepth 100000 in
theorem x_Heap_newWord_a31 (l : Launch) (dC : Nat → ClassId) (dI : Nat → Nat → Nat) (cI : ClassId) (adK adV adA u o g : Nat → Nat) (sz : Nat) (n : Nat) {i : Nat → Int32} {a : Nat → Nat → Int32} {v2 : Int32} {v3 : Int32} {i2 : Nat → Int32} {a2 : Nat → Nat → Int32} {g2 : Nat → Nat} {k2 : Nat × Nat} {r2 : Int32} (hm : m_Heap_newWord_a31 n g i a v2 v3 = some (i2, a2, g2, k2, r2)) : Met l y_Heap_newWord w_Heap_newWord ({ frames := 3, cells := k2.1, slots := k2.2, locals := 84 } : Room) (va_Pc [.ref ((u 1)), .ref ((u 41)), .int v2, .int v3] (xE dC dI cI adK adV adA u o g i a sz)) (va_Qi (xRg r2) (xBg dC dI cI u g2 i2 a2 (va_A (TW cI u o i a g) sz)) (va_A (TW cI u o i a g) sz)) k2.1 k2.2 ((va_A (TW cI u o i a g) sz)) := by
  refine Met.ofW (cc := b_Heap_newWord) (maxL := 5) (ret := (some .int)) (by decide) rfl ?_
  intro p e s m args below meth c s₁ B hml hv
  obtain ⟨rfl, hsz, hP, hK, hE, hD0⟩ := hv
  have hx := B.exec
  have hb := B.bytes
  have hr := B.returns
  have hts := atoms_spec (ws := w_Heap_newWord) B.pre
  have htt : ∀ w ∈ tw_T, w.before _ s = true := fun w h => hts w (List.mem_cons_of_mem _ h)
  have hown : s.vm.findClass R_Heap = some m.cls := findClass_of_methodNamed B.named
  have hlocks := B.notSynchronized
  subst hsz
  have hD := hD0.self (sz := s.heap.size)
  generalize hAe : (va_A (TW cI u o i a g) s.heap.size) = A at hD hE ⊢
  have hA : ∀ q : Nat, s.heap.size ≤ q → A q := fun q h => by rw [← hAe]; exact Or.inr h
  have hS : va_S A s.heap s.heap [] := va_S.rf
  obtain ⟨mc, ms, emc, ems⟩ : ∃ mc ms : Nat, k2.1 = mc ∧ k2.2 = ms := ⟨_, _, rfl, rfl⟩
  have hkc : 0 + k2.1 = mc := by rw [Nat.zero_add]; exact emc
  have hks : 0 + k2.2 = ms := by rw [Nat.zero_add]; exact ems
  rw [emc, ems]
  clear emc ems
  have hl := lv_entry ([.ref ((u 1)), .ref ((u 41)), .int v2, .int v3]) (n := 5) (Nat.le_of_ble_eq_true rfl)
  rw [lg_entry_eq]
  generalize (lg_sl ([.ref ((u 1)), .ref ((u 41)), .int v2, .int v3]) ++ List.replicate (5 - (lg_sl ([.ref ((u 1)), .ref ((u 41)), .int v2, .int v3])).length) Slot.unset).toArray = ls at hl ⊢
  have hl : lv_has ls 5 [(0, .ref ((u 1))), (1, .ref ((u 41))), (2, .int v2), (3, .int v3)] := hl
  rw [m_Heap_newWord_a31] at hm
  refine lv_iload_n hx hb d_Heap_newWord_0 rfl (lv_at hl 2 rfl) ?_
  refine lv_if_lt (tgt := 27) hx hb d_Heap_newWord_1 (by decide) (fun c_1 => ?_) (fun c_1 => ?_)
  · replace hm := if_t c_1 hm
    refine lv_ldc (v := (-2147483648)) hx hb hown (htt _ lk_Heap_71) d_Heap_newWord_27 ?_
    obtain ⟨e1, e2, e4, e5, e6, e3⟩ := re5 hm
    obtain ⟨hP, hD⟩ := x_eqg e1 e2 e4 hP hD
    refine W.widen (k := mc) (n := ms) (show 0 ≤ mc by omega) (show 0 ≤ ms by omega) ?_
    exact W.iret hx hb hr (fun t9 ht hW => ⟨⟨_, o, rfl, e3.symm, by rw [ht]; exact hP, hD⟩, hS.F ht⟩) hS.2.2 d_Heap_newWord_29
  · replace hm := if_f c_1 hm
    refine lv_iload_n hx hb d_Heap_newWord_4 rfl (lv_at hl 3 rfl) ?_
    refine lv_iconst (v := 1) hx hb d_Heap_newWord_5 (by decide) ?_
    refine lv_icmp_lt (tgt := 27) hx hb d_Heap_newWord_6 (by decide) (fun c_2 => ?_) (fun c_2 => ?_)
    · replace hm := if_t c_2 hm
      refine lv_ldc (v := (-2147483648)) hx hb hown (htt _ lk_Heap_71) d_Heap_newWord_27 ?_
      obtain ⟨e1, e2, e4, e5, e6, e3⟩ := re5 hm
      obtain ⟨hP, hD⟩ := x_eqg e1 e2 e4 hP hD
      refine W.widen (k := mc) (n := ms) (show 0 ≤ mc by omega) (show 0 ≤ ms by omega) ?_
      exact W.iret hx hb hr (fun t9 ht hW => ⟨⟨_, o, rfl, e3.symm, by rw [ht]; exact hP, hD⟩, hS.F ht⟩) hS.2.2 d_Heap_newWord_29
    · replace hm := if_f c_2 hm
      refine lv_iload_n hx hb d_Heap_newWord_9 rfl (lv_at hl 3 rfl) ?_
      refine lv_aload_n hx hb d_Heap_newWord_10 rfl (lv_at hl 1 rfl) ?_
      refine va_alen (v := nI 4000) hx hb hK hP 43 0 twA_31 rfl rfl d_Heap_newWord_11 ?_
      refine lv_iload_n hx hb d_Heap_newWord_12 rfl (lv_at hl 2 rfl) ?_
      refine lv_isub hx hb d_Heap_newWord_13 ?_
      refine lv_icmp_gt (tgt := 27) hx hb d_Heap_newWord_14 (by decide) (fun c_3 => ?_) (fun c_3 => ?_)
      · replace hm := if_t c_3 hm
        refine lv_ldc (v := (-2147483648)) hx hb hown (htt _ lk_Heap_71) d_Heap_newWord_27 ?_
        obtain ⟨e1, e2, e4, e5, e6, e3⟩ := re5 hm
        obtain ⟨hP, hD⟩ := x_eqg e1 e2 e4 hP hD
        refine W.widen (k := mc) (n := ms) (show 0 ≤ mc by omega) (show 0 ≤ ms by omega) ?_
        exact W.iret hx hb hr (fun t9 ht hW => ⟨⟨_, o, rfl, e3.symm, by rw [ht]; exact hP, hD⟩, hS.F ht⟩) hS.2.2 d_Heap_newWord_29
      · replace hm := if_f c_3 hm
        refine lv_aload_n hx hb d_Heap_newWord_17 rfl (lv_at hl 0 rfl) ?_
        refine lv_iload_n hx hb d_Heap_newWord_18 rfl (lv_at hl 3 rfl) ?_
        refine lv_iconst (v := 2) hx hb d_Heap_newWord_19 (by decide) ?_
        refine lv_iadd hx hb d_Heap_newWord_20 ?_
        obtain ⟨i_5, a_6, g_7, k_8, r_9, k_10, h_4, hm, e7, e8⟩ := obG_some hm
        have hFc := x_free hD hS hA
        refine xg_calli (va_runV (As := [.int (v3 + 2)]) (rest := []) ⟨hx, hb, hml, hown, hts⟩ (x_Heap_reserve l dC dI cI adK adV adA u o g s.heap.size n h_4) (cwV 1 hts (tw_GV tw_cons cw_Heap_reserve lk_Heap_102 in_Heap_reserve sel_Heap_reserve ini_Heap) rfl rfl rfl ⟨rfl, hd_Heap_reserve⟩ ⟨Nat.le_of_ble_eq_true rfl, Nat.le_of_ble_eq_true rfl⟩) (xpV hK hP hD hS hE hFc xo_1 rfl) rfl rfl hl.1 rfl (lv_room (Nat.le_of_ble_eq_true rfl)) d_Heap_newWord_21 ⟨show 0 + k_8.1 ≤ mc by omega, show 0 + k_8.2 ≤ ms by omega⟩) hS (fun q _ h => hFc q h) hFc (fun kc_12 ks_13 r9 o_11 t9 H locs ekc eks ht hvm e9 hB hz1 hk1 hS => ?_)
        replace hkc : kc_12 + k_10.1 = mc := by omega
        replace hks : ks_13 + k_10.2 = ms := by omega
        clear e7 e8
        clear ekc eks
        have e9 : r_9 = r9 := e9
        subst e9
        obtain ⟨hP, hD⟩ := x_aftg hB ht hFc
        clear hFc hk1 hz1 hvm hB ht
        refine lv_if_ne (tgt := 30) hx hb d_Heap_newWord_24 (by decide) (fun c_14 => ?_) (fun c_14 => ?_)
        · replace hm := if_f c_14 hm
          refine lv_aload_n hx hb d_Heap_newWord_30 rfl (lv_at hl 0 rfl) ?_
          refine va_get (D := (dC, dI)) (ci := 1) (v := .int (i_5 8)) (C := R_Heap) (T := F_Heap) (N := 12) hx hb htt iw_Heap hown hK hP 1 xo_1 rfl 7 (Nat.le_of_ble_eq_true rfl) (htt _ lk_Heap_18) (fun _ h9 => h9) xg_1_7 d_Heap_newWord_31 ?_
          refine lv_iconst (v := 1) hx hb d_Heap_newWord_34 (by decide) ?_
          refine lv_iadd hx hb d_Heap_newWord_35 ?_
          refine lv_topi (fun x_15 ex_15 => ?_)
          replace hm := ob1_at ex_15 hm
          refine lv_istore (lv' := [(4, .int x_15), (0, .ref ((u 1))), (1, .ref ((u 41))), (2, .int v2), (3, .int v3)]) hx hb d_Heap_newWord_36 hl (by decide) rfl (fun ls hl => ?_)
          refine lv_aload_n hx hb d_Heap_newWord_38 rfl (lv_at hl 2 rfl) ?_
          refine lv_iload_n hx hb d_Heap_newWord_39 rfl (lv_at hl 3 rfl) ?_
          refine lv_aload_n hx hb d_Heap_newWord_40 rfl (lv_at hl 1 rfl) ?_
          refine va_get (D := (dC, dI)) (ci := 1) (v := .ref ((o_11 0))) (C := R_Heap) (T := F_Heap) (N := 12) hx hb htt iw_Heap hown hK hP 1 xo_1 rfl 5 (Nat.le_of_ble_eq_true rfl) (htt _ lk_Heap_11) (fun _ h9 => h9) xg_1_5 d_Heap_newWord_41 ?_
          refine lv_iload hx hb d_Heap_newWord_44 (lv_at hl 0 rfl) ?_
          refine lv_iload_n hx hb d_Heap_newWord_46 rfl (lv_at hl 4 rfl) ?_
          obtain ⟨h_16a, h_16b, h_16c, h_16d, h_16e, hm⟩ := cy_some hm
          refine va_copyi hx hb (by rw [hml]; exact hl.1.symm) hown (htt _ lk_Heap_106) (htt _ na_arraycopy) (htt _ st_arraycopy) (htt _ ini_System) hK hP hD hS 43 12 0 0 (ty := .int) twA_31 twA_0 rfl rfl rfl h_16a h_16b h_16c h_16d h_16e (fun _ _ => rfl) (Nat.le_of_ble_eq_true rfl) (Nat.le_of_ble_eq_true rfl) d_Heap_newWord_47 (fun H locs hP hD hS => ?_)
          obtain ⟨a_17, ea_17⟩ : ∃ y9 : Nat → Nat → Int32, y9 = updA a_6 0 (va_cpy (a_6 31) (a_6 0) v2.toNatClampNeg x_15.toNatClampNeg v3.toNatClampNeg) := ⟨_, rfl⟩
          replace hm := ob1_at ea_17 hm
          obtain ⟨hP, hD⟩ := xv_0 ea_17 hP hD
          refine lv_aload_n hx hb d_Heap_newWord_50 rfl (lv_at hl 1 rfl) ?_
          refine va_get (D := (dC, dI)) (ci := 1) (v := .ref ((o_11 0))) (C := R_Heap) (T := F_Heap) (N := 12) hx hb htt iw_Heap hown hK hP 1 xo_1 rfl 5 (Nat.le_of_ble_eq_true rfl) (htt _ lk_Heap_11) (fun _ h9 => h9) xg_1_5 d_Heap_newWord_51 ?_
          refine lv_iload hx hb d_Heap_newWord_54 (lv_at hl 0 rfl) ?_
          refine lv_iload_n hx hb d_Heap_newWord_56 rfl (lv_at hl 4 rfl) ?_
          refine lv_iadd hx hb d_Heap_newWord_57 ?_
          refine lv_iconst (v := 0) hx hb d_Heap_newWord_58 (by decide) ?_
          obtain ⟨h_18, hm⟩ := ck_some hm
          refine va_iast hx hb hK hP hD hS 12 0 twA_0 rfl h_18 d_Heap_newWord_59 (fun H locs hP hD hS => ?_)
          obtain ⟨a_19, ea_19⟩ : ∃ y9 : Nat → Nat → Int32, y9 = sv a_17 0 (x_15 + v3).toNatClampNeg 0 := ⟨_, rfl⟩
          replace hm := ob1_at ea_19 hm
          obtain ⟨hP, hD⟩ := xv_0 ea_19 hP hD
          refine lv_aload_n hx hb d_Heap_newWord_60 rfl (lv_at hl 1 rfl) ?_
          refine va_get (D := (dC, dI)) (ci := 1) (v := .ref ((o_11 0))) (C := R_Heap) (T := F_Heap) (N := 12) hx hb htt iw_Heap hown hK hP 1 xo_1 rfl 5 (Nat.le_of_ble_eq_true rfl) (htt _ lk_Heap_11) (fun _ h9 => h9) xg_1_5 d_Heap_newWord_61 ?_
          refine lv_aload_n hx hb d_Heap_newWord_64 rfl (lv_at hl 1 rfl) ?_
          refine va_get (D := (dC, dI)) (ci := 1) (v := .int (i_5 8)) (C := R_Heap) (T := F_Heap) (N := 12) hx hb htt iw_Heap hown hK hP 1 xo_1 rfl 7 (Nat.le_of_ble_eq_true rfl) (htt _ lk_Heap_18) (fun _ h9 => h9) xg_1_7 d_Heap_newWord_65 ?_
          refine lv_sipush (v := 128) hx hb d_Heap_newWord_68 (by decide) ?_
          refine lv_aload_n hx hb d_Heap_newWord_71 rfl (lv_at hl 1 rfl) ?_
          refine va_get (D := (dC, dI)) (ci := 1) (v := .ref ((u 2))) (C := R_Heap) (T := F_Heap) (N := 12) hx hb htt iw_Heap hown hK hP 1 xo_1 rfl 0 (Nat.le_of_ble_eq_true rfl) (htt _ lk_Heap_31) (fun _ h9 => h9) xg_1_0 d_Heap_newWord_72 ?_
          refine lv_aload_n hx hb d_Heap_newWord_75 rfl (lv_at hl 1 rfl) ?_
          refine va_get (D := (dC, dI)) (ci := 1) (v := .ref ((o_11 0))) (C := R_Heap) (T := F_Heap) (N := 12) hx hb htt iw_Heap hown hK hP 1 xo_1 rfl 5 (Nat.le_of_ble_eq_true rfl) (htt _ lk_Heap_11) (fun _ h9 => h9) xg_1_5 d_Heap_newWord_76 ?_
          refine lv_iload hx hb d_Heap_newWord_79 (lv_at hl 0 rfl) ?_
          obtain ⟨r_21, h_20, hm⟩ := ob0_some hm
          have hFc := x_free0 hS hA
          refine xg_calli (va_runV (As := [.ref ((o_11 0)), .int x_15]) (rest := [.int 128, .int (i_5 8), .ref ((o_11 0))]) ⟨hx, hb, hml, hown, hts⟩ (x_Lexicon_meaning_a0 l dC dI cI adK adV adA u o_11 g_7 H.size n h_20) (cwV 2 hts (tw_GV tw_cons cw_Lexicon_meaning lk_Heap_112 in_Lexicon_meaning sel_Lexicon_meaning ini_Lexicon) rfl rfl rfl ⟨rfl, hd_Lexicon_meaning⟩ ⟨Nat.le_of_ble_eq_true rfl, Nat.le_of_ble_eq_true rfl⟩) (xpVr hK hP hS hE hFc xo_2 rfl) rfl rfl hl.1 rfl (lv_room (Nat.le_of_ble_eq_true rfl)) d_Heap_newWord_81 ⟨show kc_12 + 0 ≤ mc by omega, show ks_13 + 0 ≤ ms by omega⟩) hS (fun q _ h => hFc q h) hFc (fun kc_22 ks_23 r9 u9 t9 H locs ekc eks ht hvm e9 hB hz1 hk1 hS => ?_)
          replace hkc : kc_22 + k_10.1 = mc := by omega
          replace hks : ks_23 + k_10.2 = ms := by omega
          clear ekc eks
          have e9 : r_21 = r9 := e9
          subst e9
          replace hP := x_keep hP hk1
          clear hFc hk1 hz1 hvm hB ht
          refine lv_iadd hx hb d_Heap_newWord_84 ?_
          obtain ⟨h_24, hm⟩ := ck_some hm
          refine va_iast hx hb hK hP hD hS 12 0 twA_0 rfl h_24 d_Heap_newWord_85 (fun H locs hP hD hS => ?_)
          obtain ⟨a_25, ea_25⟩ : ∃ y9 : Nat → Nat → Int32, y9 = sv a_19 0 (i_5 8).toNatClampNeg (128 + r_21) := ⟨_, rfl⟩
          replace hm := ob1_at ea_25 hm
          obtain ⟨hP, hD⟩ := xv_0 ea_25 hP hD
          refine lv_aload_n hx hb d_Heap_newWord_86 rfl (lv_at hl 1 rfl) ?_
          refine lv_iload hx hb d_Heap_newWord_87 (lv_at hl 0 rfl) ?_
          refine lv_iload_n hx hb d_Heap_newWord_89 rfl (lv_at hl 4 rfl) ?_
          refine lv_iadd hx hb d_Heap_newWord_90 ?_
          refine lv_iconst (v := 1) hx hb d_Heap_newWord_91 (by decide) ?_
          refine lv_iadd hx hb d_Heap_newWord_92 ?_
          refine lv_topi (fun x_26 ex_26 => ?_)
          replace hm := ob1_at ex_26 hm
          refine va_put (D := (dC, dI)) (ci := 1) (v := .int x_26) (ty := .int) (C := R_Heap) (T := F_Heap) (N := 12) hx hb htt iw_Heap t_Heap t_Heap_ok n_Heap hown hK hP hD hS 1 xo_1 rfl 7 (Nat.le_of_ble_eq_true rfl) (htt _ lk_Heap_18) (fun _ h9 => h9) rfl (by decide +kernel) rfl rfl xl_1_7 d_Heap_newWord_93 (fun H locs hP hD hS => ?_)
          obtain ⟨i_27, ei_27⟩ : ∃ y9 : Nat → Int32, y9 = upd i_5 8 x_26 := ⟨_, rfl⟩
          replace hm := ob1_at ei_27 hm
          obtain ⟨hP, hD⟩ := xw_8 ei_27 hP hD
          refine lv_iload hx hb d_Heap_newWord_96 (lv_at hl 0 rfl) ?_
          refine lv_iconst (v := 2) hx hb d_Heap_newWord_98 (by decide) ?_
          refine lv_ishl hx hb d_Heap_newWord_99 ?_
          refine lv_iconst (v := 3) hx hb d_Heap_newWord_100 (by decide) ?_
          refine lv_ior hx hb d_Heap_newWord_101 ?_
          obtain ⟨e1, e2, e4, e5, e6, e3⟩ := re5 hm
          obtain ⟨hP, hD⟩ := x_eqg e1 e2 e4 hP hD
          refine W.widen (k := mc) (n := ms) (show kc_22 ≤ mc by omega) (show ks_23 ≤ ms by omega) ?_
          exact W.iret hx hb hr (fun t9 ht hW => ⟨⟨_, o_11, rfl, e3.symm, by rw [ht]; exact hP, hD⟩, hS.F ht⟩) hS.2.2 d_Heap_newWord_102
        · replace hm := if_t c_14 hm
          refine lv_ldc (v := (-2147483648)) hx hb hown (htt _ lk_Heap_71) d_Heap_newWord_27 ?_
          obtain ⟨e1, e2, e4, e5, e6, e3⟩ := re5 hm
          obtain ⟨hP, hD⟩ := x_eqg e1 e2 e4 hP hD
          refine W.widen (k := mc) (n := ms) (show kc_12 ≤ mc by omega) (show ks_13 ≤ ms by omega) ?_
          exact W.iret hx hb hr (fun t9 ht hW => ⟨⟨_, o_11, rfl, e3.symm, by rw [ht]; exact hP, hD⟩, hS.F ht⟩) hS.2.2 d_Heap_newWord_29

def m_Reader_readPlain_b86 (n : Nat) (i : Nat → Int32) (a : Nat → Nat → Int32) (g : Nat → Nat) (v1 : Int32) (v3 : Int32) : Option ((Nat → Int32) × (Nat → Nat → Int32) × (Nat → Nat) × (Nat × Nat) × Int32) := ob (m_Reader_blame n g i a (6 : Int32) v1) (fun i_2 a_3 r_4 => some (i_2, a_3, g, (0, 0), v3))
set_option maxHeartbeats 4000000 in
set_option maxRecDepth 100000 in
theorem lb_Reader_readPlain_86 (l : Launch) (dC : Nat → ClassId) (dI : Nat → Nat → Nat) (cI : ClassId) (adK adV adA u : Nat → Nat) (n : Nat) {p : Program} {e : Env} {s : State} {m : MethodId} {args : Array Value} {below : List Frame} {meth : Method} {c : Code} {A : Nat → Prop} (hx : p.tables.exec = Jvm.exec) (hb : c.code = b_Reader_readPlain) (hml : c.maxLocals = 4) (hown : s.vm.findClass R_Reader = some m.cls) (hts : ∀ w ∈ w_Reader_readPlain, w.before args s = true) (hK : va_K (dC, dI) classes [(cI, .int)] s) (hE : tw_E adK adV adA A s s.heap) (hA : ∀ q : Nat, s.heap.size ≤ q → A q) (hr : meth.sig.returnType = (some .int)) (hlocks : meth.locks = false) {mc ms : Nat} {i2 : Nat → Int32} {a2 : Nat → Nat → Int32} {g2 : Nat → Nat} {r2 : Int32} (i : Nat → Int32) (a : Nat → Nat → Int32) (g : Nat → Nat) (v1 : Int32) (v3 : Int32) (k2 : Nat × Nat) (hm : m_Reader_readPlain_b86 n i a g v1 v3 = some (i2, a2, g2, k2, r2)) : ∀ (o : Nat → Nat) (kc ks : Nat), kc + k2.1 = mc → ks + k2.2 = ms → ∀ (H : Heap) (locs : List Loc) (ls : Array Slot), va_P (dC, dI) classes (TW cI u o i a g) H → va_D A (TW cI u o i a g) → va_S A s.heap H locs → lv_has ls 4 [(0, .ref ((u 7))), (1, .int v1), (3, .int v3)] → W p l e ({ frames := 4, cells := mc, slots := ms, locals := 108 } : Room) s m args below meth c H locs kc ks (MQ below (va_Qi (xRg r2) (xBg dC dI cI u g2 i2 a2 A) A) args s mc ms A) (F0 m 86 ls []) := by
  have htt : ∀ w ∈ tw_T, w.before _ s = true := fun w h => hts w (List.mem_cons_of_mem _ h)
  intro o kc ks hkc hks H locs ls hP hD hS hl
  rw [m_Reader_readPlain_b86] at hm
  refine lv_aload_n hx hb d_Reader_readPlain_86 rfl (lv_at hl 0 rfl) ?_
  refine lv_bipush (v := 6) hx hb d_Reader_readPlain_87 (by decide) ?_
  refine lv_iload_n hx hb d_Reader_readPlain_89 rfl (lv_at hl 1 rfl) ?_
  obtain ⟨i_2, a_3, r_4, h_1, hm⟩ := ob_some hm
  have hFc := x_free hD hS hA
  refine xg_callv (va_runV (As := [.int 6, .int v1]) (rest := []) ⟨hx, hb, hml, hown, hts⟩ (x_Reader_blame l dC dI cI adK adV adA u o g H.size n h_1) (cwV 2 hts (tw_GV tw_cons cw_Reader_blame lk_Reader_54 in_Reader_blame sel_Reader_blame ini_Reader) rfl rfl rfl ⟨rfl, hd_Reader_blame⟩ ⟨Nat.le_of_ble_eq_true rfl, Nat.le_of_ble_eq_true rfl⟩) (xpV hK hP hD hS hE hFc xo_7 rfl) rfl rfl hl.1 rfl (lv_room (Nat.le_of_ble_eq_true rfl)) d_Reader_readPlain_90 ⟨show kc + 0 ≤ mc by omega, show ks + 0 ≤ ms by omega⟩) hS (fun q _ h => hFc q h) hFc (fun kc_5 ks_6 u9 t9 H locs ekc eks ht hvm e9 hB hz1 hk1 hS => ?_)
  replace hkc : kc_5 + k2.1 = mc := by omega
  replace hks : ks_6 + k2.2 = ms := by omega
  clear ekc eks
  obtain ⟨hP, hD⟩ := x_aft hB ht hFc
  clear hFc hk1 hz1 hvm hB ht
  refine lv_iload_n hx hb d_Reader_readPlain_93 rfl (lv_at hl 2 rfl) ?_
  obtain ⟨e1, e2, e4, e5, e6, e3⟩ := re5 hm
  obtain ⟨hP, hD⟩ := x_eqg e1 e2 e4 hP hD
  refine W.widen (k := mc) (n := ms) (show kc_5 ≤ mc by omega) (show ks_6 ≤ ms by omega) ?_
  exact W.iret hx hb hr (fun t9 ht hW => ⟨⟨_, o, rfl, e3.symm, by rw [ht]; exact hP, hD⟩, hS.F ht⟩) hS.2.2 d_Reader_readPlain_94
def m_Reader_readPlain_b70 (n : Nat) (i : Nat → Int32) (a : Nat → Nat → Int32) (g : Nat → Nat) (v1 : Int32) (v3 : Int32) : Option ((Nat → Int32) × (Nat → Nat → Int32) × (Nat → Nat) × (Nat × Nat) × Int32) := if ((600 : Int32)) < ((i 30)) then m_Reader_readPlain_b86 n i a g v1 v3 else if v3 = ((-2147483648 : Int32)) then m_Reader_readPlain_b86 n i a g v1 v3 else some (i, a, g, (0, 0), v3)
set_option maxHeartbeats 4000000 in
set_option maxRecDepth 100000 in
theorem lb_Reader_readPlain_70 (l : Launch) (dC : Nat → ClassId) (dI : Nat → Nat → Nat) (cI : ClassId) (adK adV adA u : Nat → Nat) (n : Nat) {p : Program} {e : Env} {s : State} {m : MethodId} {args : Array Value} {below : List Frame} {meth : Method} {c : Code} {A : Nat → Prop} (hx : p.tables.exec = Jvm.exec) (hb : c.code = b_Reader_readPlain) (hml : c.maxLocals = 4) (hown : s.vm.findClass R_Reader = some m.cls) (hts : ∀ w ∈ w_Reader_readPlain, w.before args s = true) (hK : va_K (dC, dI) classes [(cI, .int)] s) (hE : tw_E adK adV adA A s s.heap) (hA : ∀ q : Nat, s.heap.size ≤ q → A q) (hr : meth.sig.returnType = (some .int)) (hlocks : meth.locks = false) {mc ms : Nat} {i2 : Nat → Int32} {a2 : Nat → Nat → Int32} {g2 : Nat → Nat} {r2 : Int32} (i : Nat → Int32) (a : Nat → Nat → Int32) (g : Nat → Nat) (v1 : Int32) (v3 : Int32) (k2 : Nat × Nat) (hm : m_Reader_readPlain_b70 n i a g v1 v3 = some (i2, a2, g2, k2, r2)) : ∀ (o : Nat → Nat) (kc ks : Nat), kc + k2.1 = mc → ks + k2.2 = ms → ∀ (H : Heap) (locs : List Loc) (ls : Array Slot), va_P (dC, dI) classes (TW cI u o i a g) H → va_D A (TW cI u o i a g) → va_S A s.heap H locs → lv_has ls 4 [(0, .ref ((u 7))), (1, .int v1), (3, .int v3)] → W p l e ({ frames := 4, cells := mc, slots := ms, locals := 108 } : Room) s m args below meth c H locs kc ks (MQ below (va_Qi (xRg r2) (xBg dC dI cI u g2 i2 a2 A) A) args s mc ms A) (F0 m 70 ls []) := by
  have htt : ∀ w ∈ tw_T, w.before _ s = true := fun w h => hts w (List.mem_cons_of_mem _ h)
  intro o kc ks hkc hks H locs ls hP hD hS hl
  rw [m_Reader_readPlain_b70] at hm
  refine lv_aload_n hx hb d_Reader_readPlain_70 rfl (lv_at hl 0 rfl) ?_
  refine va_get (D := (dC, dI)) (ci := 7) (v := .int (i 30)) (C := R_Reader) (T := F_Reader) (N := 19) hx hb htt iw_Reader hown hK hP 7 xo_7 rfl 11 (Nat.le_of_ble_eq_true rfl) (htt _ lk_Reader_81) (fun _ h9 => h9) xg_7_11 d_Reader_readPlain_71 ?_
  refine lv_sipush (v := 600) hx hb d_Reader_readPlain_74 (by decide) ?_
  refine lv_icmp_gt (tgt := 86) hx hb d_Reader_readPlain_77 (by decide) (fun c_1 => ?_) (fun c_1 => ?_)
  · replace hm := if_t c_1 hm
    exact lb_Reader_readPlain_86 l dC dI cI adK adV adA u n hx hb hml hown hts hK hE hA hr hlocks _ _ _ _ _ _ hm o kc ks hkc hks _ _ _ hP hD hS (lv_sub hl [0, 1, 2] rfl)
  · replace hm := if_f c_1 hm
    refine lv_iload_n hx hb d_Reader_readPlain_80 rfl (lv_at hl 2 rfl) ?_
    refine lv_ldc (v := (-2147483648)) hx hb hown (htt _ lk_Reader_127) d_Reader_readPlain_81 ?_
    refine lv_icmp_ne (tgt := 93) hx hb d_Reader_readPlain_83 (by decide) (fun c_2 => ?_) (fun c_2 => ?_)
    · replace hm := if_f c_2 hm
      refine lv_iload_n hx hb d_Reader_readPlain_93 rfl (lv_at hl 2 rfl) ?_
      obtain ⟨e1, e2, e4, e5, e6, e3⟩ := re5 hm
      obtain ⟨hP, hD⟩ := x_eqg e1 e2 e4 hP hD
      refine W.widen (k := mc) (n := ms) (show kc ≤ mc by omega) (show ks ≤ ms by omega) ?_
      exact W.iret hx hb hr (fun t9 ht hW => ⟨⟨_, o, rfl, e3.symm, by rw [ht]; exact hP, hD⟩, hS.F ht⟩) hS.2.2 d_Reader_readPlain_94
    · replace hm := if_t c_2 hm
      exact lb_Reader_readPlain_86 l dC dI cI adK adV adA u n hx hb hml hown hts hK hE hA hr hlocks _ _ _ _ _ _ hm o kc ks hkc hks _ _ _ hP hD hS (lv_sub hl [0, 1, 2] rfl)
def m_Reader_readPlain_b48 (n : Nat) (i : Nat → Int32) (a : Nat → Nat → Int32) (g : Nat → Nat) (v1 : Int32) (v2 : Int32) (v3 : Int32) : Option ((Nat → Int32) × (Nat → Nat → Int32) × (Nat → Nat) × (Nat × Nat) × Int32) := if v3 = ((-2147483648 : Int32)) then obG (m_Heap_newWord_a31 n g i a v1 (v2 - v1)) (fun i_3 a_4 g_5 r_7 => m_Reader_readPlain_b70 n i_3 a_4 g_5 v1 r_7) else m_Reader_readPlain_b70 n i a g v1 v3
set_option maxHeartbeats 4000000 in
set_option maxRecDepth 100000 in
theorem lb_Reader_readPlain_48 (l : Launch) (dC : Nat → ClassId) (dI : Nat → Nat → Nat) (cI : ClassId) (adK adV adA u : Nat → Nat) (n : Nat) {p : Program} {e : Env} {s : State} {m : MethodId} {args : Array Value} {below : List Frame} {meth : Method} {c : Code} {A : Nat → Prop} (hx : p.tables.exec = Jvm.exec) (hb : c.code = b_Reader_readPlain) (hml : c.maxLocals = 4) (hown : s.vm.findClass R_Reader = some m.cls) (hts : ∀ w ∈ w_Reader_readPlain, w.before args s = true) (hK : va_K (dC, dI) classes [(cI, .int)] s) (hE : tw_E adK adV adA A s s.heap) (hA : ∀ q : Nat, s.heap.size ≤ q → A q) (hr : meth.sig.returnType = (some .int)) (hlocks : meth.locks = false) {mc ms : Nat} {i2 : Nat → Int32} {a2 : Nat → Nat → Int32} {g2 : Nat → Nat} {r2 : Int32} (i : Nat → Int32) (a : Nat → Nat → Int32) (g : Nat → Nat) (v1 : Int32) (v2 : Int32) (v3 : Int32) (k2 : Nat × Nat) (hm : m_Reader_readPlain_b48 n i a g v1 v2 v3 = some (i2, a2, g2, k2, r2)) : ∀ (o : Nat → Nat) (kc ks : Nat), kc + k2.1 = mc → ks + k2.2 = ms → ∀ (H : Heap) (locs : List Loc) (ls : Array Slot), va_P (dC, dI) classes (TW cI u o i a g) H → va_D A (TW cI u o i a g) → va_S A s.heap H locs → lv_has ls 4 [(0, .ref ((u 7))), (1, .int v1), (2, .int v2), (3, .int v3)] → W p l e ({ frames := 4, cells := mc, slots := ms, locals := 108 } : Room) s m args below meth c H locs kc ks (MQ below (va_Qi (xRg r2) (xBg dC dI cI u g2 i2 a2 A) A) args s mc ms A) (F0 m 48 ls []) := by
  have htt : ∀ w ∈ tw_T, w.before _ s = true := fun w h => hts w (List.mem_cons_of_mem _ h)
  intro o kc ks hkc hks H locs ls hP hD hS hl
  rw [m_Reader_readPlain_b48] at hm
  refine lv_iload_n hx hb d_Reader_readPlain_48 rfl (lv_at hl 3 rfl) ?_
  refine lv_ldc (v := (-2147483648)) hx hb hown (htt _ lk_Reader_127) d_Reader_readPlain_49 ?_
  refine lv_icmp_ne (tgt := 70) hx hb d_Reader_readPlain_51 (by decide) (fun c_1 => ?_) (fun c_1 => ?_)
  · replace hm := if_f c_1 hm
    exact lb_Reader_readPlain_70 l dC dI cI adK adV adA u n hx hb hml hown hts hK hE hA hr hlocks _ _ _ _ _ _ hm o kc ks hkc hks _ _ _ hP hD hS (lv_sub hl [0, 1, 3] rfl)
  · replace hm := if_t c_1 hm
    refine lv_aload_n hx hb d_Reader_readPlain_54 rfl (lv_at hl 0 rfl) ?_
    refine va_get (D := (dC, dI)) (ci := 7) (v := .ref ((u 1))) (C := R_Reader) (T := F_Reader) (N := 19) hx hb htt iw_Reader hown hK hP 7 xo_7 rfl 0 (Nat.le_of_ble_eq_true rfl) (htt _ lk_Reader_30) (fun _ h9 => h9) xg_7_0 d_Reader_readPlain_55 ?_
    refine lv_aload_n hx hb d_Reader_readPlain_58 rfl (lv_at hl 0 rfl) ?_
    refine va_get (D := (dC, dI)) (ci := 7) (v := .ref ((u 41))) (C := R_Reader) (T := F_Reader) (N := 19) hx hb htt iw_Reader hown hK hP 7 xo_7 rfl 2 (Nat.le_of_ble_eq_true rfl) (htt _ lk_Reader_11) (fun _ h9 => h9) xg_7_2 d_Reader_readPlain_59 ?_
    refine lv_iload_n hx hb d_Reader_readPlain_62 rfl (lv_at hl 1 rfl) ?_
    refine lv_iload_n hx hb d_Reader_readPlain_63 rfl (lv_at hl 2 rfl) ?_
    refine lv_iload_n hx hb d_Reader_readPlain_64 rfl (lv_at hl 1 rfl) ?_
    refine lv_isub hx hb d_Reader_readPlain_65 ?_
    obtain ⟨i_3, a_4, g_5, k_6, r_7, k_8, h_2, hm, e7, e8⟩ := obG_some hm
    have hFc := x_free hD hS hA
    refine xg_calli (va_runV (As := [.ref ((u 41)), .int v1, .int (v2 - v1)]) (rest := []) ⟨hx, hb, hml, hown, hts⟩ (x_Heap_newWord_a31 l dC dI cI adK adV adA u o g H.size n h_2) (cwV 3 hts (tw_GV tw_cons cw_Heap_newWord lk_Reader_135 in_Heap_newWord sel_Heap_newWord ini_Heap) rfl rfl rfl ⟨rfl, hd_Heap_newWord⟩ ⟨Nat.le_of_ble_eq_true rfl, Nat.le_of_ble_eq_true rfl⟩) (xpV hK hP hD hS hE hFc xo_1 rfl) rfl rfl hl.1 rfl (lv_room (Nat.le_of_ble_eq_true rfl)) d_Reader_readPlain_66 ⟨show kc + k_6.1 ≤ mc by omega, show ks + k_6.2 ≤ ms by omega⟩) hS (fun q _ h => hFc q h) hFc (fun kc_10 ks_11 r9 o_9 t9 H locs ekc eks ht hvm e9 hB hz1 hk1 hS => ?_)
    replace hkc : kc_10 + k_8.1 = mc := by omega
    replace hks : ks_11 + k_8.2 = ms := by omega
    clear e7 e8
    clear ekc eks
    have e9 : r_7 = r9 := e9
    subst e9
    obtain ⟨hP, hD⟩ := x_aftg hB ht hFc
    clear hFc hk1 hz1 hvm hB ht
    refine lv_istore_n (lv' := [(3, .int r_7), (0, .ref ((u 7))), (1, .int v1), (2, .int v2)]) hx hb d_Reader_readPlain_69 rfl hl (by decide) rfl (fun ls hl => ?_)
    exact lb_Reader_readPlain_70 l dC dI cI adK adV adA u n hx hb hml hown hts hK hE hA hr hlocks _ _ _ _ _ _ hm o_9 kc_10 ks_11 hkc hks _ _ _ hP hD hS (lv_sub hl [1, 2, 0] rfl)
def m_Reader_readPlain (n : Nat) (g : Nat → Nat) (i : Nat → Int32) (a : Nat → Nat → Int32) (v1 : Int32) (v2 : Int32) : Option ((Nat → Int32) × (Nat → Nat → Int32) × (Nat → Nat) × (Nat × Nat) × Int32) := ob0 (m_Heap_numberIn_a31 n g i a v1 v2) (fun r_2 => if r_2 = ((-2147483639 : Int32)) then ob (m_Reader_blame n g i a (2 : Int32) v1) (fun i_15 a_16 r_17 => m_Reader_readPlain_b70 n i_15 a_16 g v1 r_2) else if r_2 = ((-2147483648 : Int32)) then if ((v2 - v1)) ≤ ((30 : Int32)) then m_Reader_readPlain_b48 n i a g v1 v2 r_2 else ob (m_Reader_blame n g i a (3 : Int32) v1) (fun i_9 a_10 r_11 => m_Reader_readPlain_b70 n i_9 a_10 g v1 r_2) else m_Reader_readPlain_b48 n i a g v1 v2 r_2)
set_option maxHeartbeats 4000000 in
set_option maxRecDepth 100000 in
theorem x_Reader_readPlain (l : Launch) (dC : Nat → ClassId) (dI : Nat → Nat → Nat) (cI : ClassId) (adK adV adA u o g : Nat → Nat) (sz : Nat) (n : Nat) {i : Nat → Int32} {a : Nat → Nat → Int32} {v1 : Int32} {v2 : Int32} {i2 : Nat → Int32} {a2 : Nat → Nat → Int32} {g2 : Nat → Nat} {k2 : Nat × Nat} {r2 : Int32} (hm : m_Reader_readPlain n g i a v1 v2 = some (i2, a2, g2, k2, r2)) : Met l y_Reader_readPlain w_Reader_readPlain ({ frames := 4, cells := k2.1, slots := k2.2, locals := 108 } : Room) (va_Pc [.ref ((u 7)), .int v1, .int v2] (xE dC dI cI adK adV adA u o g i a sz)) (va_Qi (xRg r2) (xBg dC dI cI u g2 i2 a2 (va_A (TW cI u o i a g) sz)) (va_A (TW cI u o i a g) sz)) k2.1 k2.2 ((va_A (TW cI u o i a g) sz)) := by
  refine Met.ofW (cc := b_Reader_readPlain) (maxL := 4) (ret := (some .int)) (by decide) rfl ?_
  intro p e s m args below meth c s₁ B hml hv
  obtain ⟨rfl, hsz, hP, hK, hE, hD0⟩ := hv
  have hx := B.exec
  have hb := B.bytes
  have hr := B.returns
  have hts := atoms_spec (ws := w_Reader_readPlain) B.pre
  have htt : ∀ w ∈ tw_T, w.before _ s = true := fun w h => hts w (List.mem_cons_of_mem _ h)
  have hown : s.vm.findClass R_Reader = some m.cls := findClass_of_methodNamed B.named
  have hlocks := B.notSynchronized
  subst hsz
  have hD := hD0.self (sz := s.heap.size)
  generalize hAe : (va_A (TW cI u o i a g) s.heap.size) = A at hD hE ⊢
  have hA : ∀ q : Nat, s.heap.size ≤ q → A q := fun q h => by rw [← hAe]; exact Or.inr h
  have hS : va_S A s.heap s.heap [] := va_S.rf
  obtain ⟨mc, ms, emc, ems⟩ : ∃ mc ms : Nat, k2.1 = mc ∧ k2.2 = ms := ⟨_, _, rfl, rfl⟩
  have hkc : 0 + k2.1 = mc := by rw [Nat.zero_add]; exact emc
  have hks : 0 + k2.2 = ms := by rw [Nat.zero_add]; exact ems
  rw [emc, ems]
  clear emc ems
  have hl := lv_entry ([.ref ((u 7)), .int v1, .int v2]) (n := 4) (Nat.le_of_ble_eq_true rfl)
  rw [lg_entry_eq]
  generalize (lg_sl ([.ref ((u 7)), .int v1, .int v2]) ++ List.replicate (4 - (lg_sl ([.ref ((u 7)), .int v1, .int v2])).length) Slot.unset).toArray = ls at hl ⊢
  have hl : lv_has ls 4 [(0, .ref ((u 7))), (1, .int v1), (2, .int v2)] := hl
  rw [m_Reader_readPlain] at hm
  refine lv_aload_n hx hb d_Reader_readPlain_0 rfl (lv_at hl 0 rfl) ?_
  refine va_get (D := (dC, dI)) (ci := 7) (v := .ref ((u 41))) (C := R_Reader) (T := F_Reader) (N := 19) hx hb htt iw_Reader hown hK hP 7 xo_7 rfl 2 (Nat.le_of_ble_eq_true rfl) (htt _ lk_Reader_11) (fun _ h9 => h9) xg_7_2 d_Reader_readPlain_1 ?_
  refine lv_iload_n hx hb d_Reader_readPlain_4 rfl (lv_at hl 1 rfl) ?_
  refine lv_iload_n hx hb d_Reader_readPlain_5 rfl (lv_at hl 2 rfl) ?_
  obtain ⟨r_2, h_1, hm⟩ := ob0_some hm
  have hFc := x_free0 hS hA
  refine xg_calli (va_runS (As := [.ref ((u 41)), .int v1, .int v2]) (rest := []) ⟨hx, hb, hml, hown, hts⟩ (x_Heap_numberIn_a31 l dC dI cI adK adV adA u o g s.heap.size n h_1) (va_cwS 3 hts (tw_GS tw_cons cw_Heap_numberIn lk_Reader_131 st_Heap_numberIn ini_Heap) rfl rfl rfl hd_Heap_numberIn ⟨Nat.le_of_ble_eq_true rfl, Nat.le_of_ble_eq_true rfl⟩) (xpSr hK hP hS hE hFc) rfl rfl hl.1 rfl (lv_room (Nat.le_of_ble_eq_true rfl)) d_Reader_readPlain_6 ⟨show 0 + 0 ≤ mc by omega, show 0 + 0 ≤ ms by omega⟩) hS (fun q _ h => hFc q h) hFc (fun kc_3 ks_4 r9 u9 t9 H locs ekc eks ht hvm e9 hB hz1 hk1 hS => ?_)
  replace hkc : kc_3 + k2.1 = mc := by omega
  replace hks : ks_4 + k2.2 = ms := by omega
  clear ekc eks
  have e9 : r_2 = r9 := e9
  subst e9
  replace hP := x_keep hP hk1
  clear hFc hk1 hz1 hvm hB ht
  refine lv_istore_n (lv' := [(3, .int r_2), (0, .ref ((u 7))), (1, .int v1), (2, .int v2)]) hx hb d_Reader_readPlain_9 rfl hl (by decide) rfl (fun ls hl => ?_)
  refine lv_iload_n hx hb d_Reader_readPlain_10 rfl (lv_at hl 0 rfl) ?_
  refine lv_ldc (v := (-2147483639)) hx hb hown (htt _ lk_Reader_134) d_Reader_readPlain_11 ?_
  refine lv_icmp_ne (tgt := 25) hx hb d_Reader_readPlain_13 (by decide) (fun c_5 => ?_) (fun c_5 => ?_)
  · replace hm := if_f c_5 hm
    refine lv_iload_n hx hb d_Reader_readPlain_25 rfl (lv_at hl 0 rfl) ?_
    refine lv_ldc (v := (-2147483648)) hx hb hown (htt _ lk_Reader_127) d_Reader_readPlain_26 ?_
    refine lv_icmp_ne (tgt := 48) hx hb d_Reader_readPlain_28 (by decide) (fun c_6 => ?_) (fun c_6 => ?_)
    · replace hm := if_f c_6 hm
      exact lb_Reader_readPlain_48 l dC dI cI adK adV adA u n hx hb hml hown hts hK hE hA hr hlocks _ _ _ _ _ _ _ hm o kc_3 ks_4 hkc hks _ _ _ hP hD hS (lv_sub hl [1, 2, 3, 0] rfl)
    · replace hm := if_t c_6 hm
      refine lv_iload_n hx hb d_Reader_readPlain_31 rfl (lv_at hl 3 rfl) ?_
      refine lv_iload_n hx hb d_Reader_readPlain_32 rfl (lv_at hl 2 rfl) ?_
      refine lv_isub hx hb d_Reader_readPlain_33 ?_
      refine lv_bipush (v := 30) hx hb d_Reader_readPlain_34 (by decide) ?_
      refine lv_icmp_le (tgt := 48) hx hb d_Reader_readPlain_36 (by decide) (fun c_7 => ?_) (fun c_7 => ?_)
      · replace hm := if_t c_7 hm
        exact lb_Reader_readPlain_48 l dC dI cI adK adV adA u n hx hb hml hown hts hK hE hA hr hlocks _ _ _ _ _ _ _ hm o kc_3 ks_4 hkc hks _ _ _ hP hD hS (lv_sub hl [1, 2, 3, 0] rfl)
      · replace hm := if_f c_7 hm
        refine lv_aload_n hx hb d_Reader_readPlain_39 rfl (lv_at hl 1 rfl) ?_
        refine lv_iconst (v := 3) hx hb d_Reader_readPlain_40 (by decide) ?_
        refine lv_iload_n hx hb d_Reader_readPlain_41 rfl (lv_at hl 2 rfl) ?_
        obtain ⟨i_9, a_10, r_11, h_8, hm⟩ := ob_some hm
        have hFc := x_free hD hS hA
        refine xg_callv (va_runV (As := [.int 3, .int v1]) (rest := []) ⟨hx, hb, hml, hown, hts⟩ (x_Reader_blame l dC dI cI adK adV adA u o g H.size n h_8) (cwV 2 hts (tw_GV tw_cons cw_Reader_blame lk_Reader_54 in_Reader_blame sel_Reader_blame ini_Reader) rfl rfl rfl ⟨rfl, hd_Reader_blame⟩ ⟨Nat.le_of_ble_eq_true rfl, Nat.le_of_ble_eq_true rfl⟩) (xpV hK hP hD hS hE hFc xo_7 rfl) rfl rfl hl.1 rfl (lv_room (Nat.le_of_ble_eq_true rfl)) d_Reader_readPlain_42 ⟨show kc_3 + 0 ≤ mc by omega, show ks_4 + 0 ≤ ms by omega⟩) hS (fun q _ h => hFc q h) hFc (fun kc_12 ks_13 u9 t9 H locs ekc eks ht hvm e9 hB hz1 hk1 hS => ?_)
        replace hkc : kc_12 + k2.1 = mc := by omega
        replace hks : ks_13 + k2.2 = ms := by omega
        clear ekc eks
        obtain ⟨hP, hD⟩ := x_aft hB ht hFc
        clear hFc hk1 hz1 hvm hB ht
        refine lv_goto (tgt := 70) hx hb d_Reader_readPlain_45 (by decide) ?_
        exact lb_Reader_readPlain_70 l dC dI cI adK adV adA u n hx hb hml hown hts hK hE hA hr hlocks _ _ _ _ _ _ hm o kc_12 ks_13 hkc hks _ _ _ hP hD hS (lv_sub hl [1, 2, 0] rfl)
  · replace hm := if_t c_5 hm
    refine lv_aload_n hx hb d_Reader_readPlain_16 rfl (lv_at hl 1 rfl) ?_
    refine lv_iconst (v := 2) hx hb d_Reader_readPlain_17 (by decide) ?_
    refine lv_iload_n hx hb d_Reader_readPlain_18 rfl (lv_at hl 2 rfl) ?_
    obtain ⟨i_15, a_16, r_17, h_14, hm⟩ := ob_some hm
    have hFc := x_free hD hS hA
    refine xg_callv (va_runV (As := [.int 2, .int v1]) (rest := []) ⟨hx, hb, hml, hown, hts⟩ (x_Reader_blame l dC dI cI adK adV adA u o g H.size n h_14) (cwV 2 hts (tw_GV tw_cons cw_Reader_blame lk_Reader_54 in_Reader_blame sel_Reader_blame ini_Reader) rfl rfl rfl ⟨rfl, hd_Reader_blame⟩ ⟨Nat.le_of_ble_eq_true rfl, Nat.le_of_ble_eq_true rfl⟩) (xpV hK hP hD hS hE hFc xo_7 rfl) rfl rfl hl.1 rfl (lv_room (Nat.le_of_ble_eq_true rfl)) d_Reader_readPlain_19 ⟨show kc_3 + 0 ≤ mc by omega, show ks_4 + 0 ≤ ms by omega⟩) hS (fun q _ h => hFc q h) hFc (fun kc_18 ks_19 u9 t9 H locs ekc eks ht hvm e9 hB hz1 hk1 hS => ?_)
    replace hkc : kc_18 + k2.1 = mc := by omega
    replace hks : ks_19 + k2.2 = ms := by omega
    clear ekc eks
    obtain ⟨hP, hD⟩ := x_aft hB ht hFc
    clear hFc hk1 hz1 hvm hB ht
    refine lv_goto (tgt := 70) hx hb d_Reader_readPlain_22 (by decide) ?_
    exact lb_Reader_readPlain_70 l dC dI cI adK adV adA u n hx hb hml hown hts hK hE hA hr hlocks _ _ _ _ _ _ hm o kc_18 ks_19 hkc hks _ _ _ hP hD hS (lv_sub hl [1, 2, 0] rfl)
