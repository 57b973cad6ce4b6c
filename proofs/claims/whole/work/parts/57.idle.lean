theorem d_Machine_goOn_0 : decode b_Machine_goOn 0 = .ok (.iload_n 1, 1) := by decide +kernel
theorem d_Machine_goOn_1 : decode b_Machine_goOn 1 = .ok (.sipush 20000, 3) := by decide +kernel
theorem d_Machine_goOn_4 : decode b_Machine_goOn 4 = .ok (.invokestatic 68, 3) := by decide +kernel
theorem d_Machine_goOn_7 : decode b_Machine_goOn 7 = .ok (.istore_n 2, 1) := by decide +kernel
theorem d_Machine_goOn_8 : decode b_Machine_goOn 8 = .ok (.iconst 0, 1) := by decide +kernel
theorem d_Machine_goOn_9 : decode b_Machine_goOn 9 = .ok (.istore_n 3, 1) := by decide +kernel
theorem d_Machine_goOn_10 : decode b_Machine_goOn 10 = .ok (.iconst 0, 1) := by decide +kernel
theorem d_Machine_goOn_11 : decode b_Machine_goOn 11 = .ok (.istore 4, 2) := by decide +kernel
theorem d_Machine_goOn_13 : decode b_Machine_goOn 13 = .ok (.iload 4, 2) := by decide +kernel
theorem d_Machine_goOn_15 : decode b_Machine_goOn 15 = .ok (.iload_n 2, 1) := by decide +kernel
theorem d_Machine_goOn_16 : decode b_Machine_goOn 16 = .ok (.if_icmp .ge 53, 3) := by decide +kernel
theorem d_Machine_goOn_19 : decode b_Machine_goOn 19 = .ok (.aload_n 0, 1) := by decide +kernel
theorem d_Machine_goOn_20 : decode b_Machine_goOn 20 = .ok (.getfield 18, 3) := by decide +kernel
theorem d_Machine_goOn_23 : decode b_Machine_goOn 23 = .ok (.getfield 74, 3) := by decide +kernel
theorem d_Machine_goOn_26 : decode b_Machine_goOn 26 = .ok (.iconst 1, 1) := by decide +kernel
theorem d_Machine_goOn_27 : decode b_Machine_goOn 27 = .ok (.if_icmp .ne 42, 3) := by decide +kernel
theorem d_Machine_goOn_30 : decode b_Machine_goOn 30 = .ok (.aload_n 0, 1) := by decide +kernel
theorem d_Machine_goOn_31 : decode b_Machine_goOn 31 = .ok (.getfield 18, 3) := by decide +kernel
theorem d_Machine_goOn_34 : decode b_Machine_goOn 34 = .ok (.dup, 1) := by decide +kernel
theorem d_Machine_goOn_35 : decode b_Machine_goOn 35 = .ok (.getfield 77, 3) := by decide +kernel
theorem d_Machine_goOn_38 : decode b_Machine_goOn 38 = .ok (.iconst 1, 1) := by decide +kernel
theorem d_Machine_goOn_39 : decode b_Machine_goOn 39 = .ok (.iadd, 1) := by decide +kernel
theorem d_Machine_goOn_40 : decode b_Machine_goOn 40 = .ok (.putfield 77, 3) := by decide +kernel
theorem d_Machine_goOn_43 : decode b_Machine_goOn 43 = .ok (.iinc 3 1, 3) := by decide +kernel
theorem d_Machine_goOn_46 : decode b_Machine_goOn 46 = .ok (.aload_n 0, 1) := by decide +kernel
theorem d_Machine_goOn_47 : decode b_Machine_goOn 47 = .ok (.iconst 0, 1) := by decide +kernel
theorem d_Machine_goOn_48 : decode b_Machine_goOn 48 = .ok (.putfield 62, 3) := by decide +kernel
theorem d_Machine_goOn_51 : decode b_Machine_goOn 51 = .ok (.aload_n 0, 1) := by decide +kernel
theorem d_Machine_goOn_52 : decode b_Machine_goOn 52 = .ok (.aload_n 0, 1) := by decide +kernel
theorem d_Machine_goOn_53 : decode b_Machine_goOn 53 = .ok (.invokevirtual 80, 3) := by decide +kernel
theorem d_Machine_goOn_56 : decode b_Machine_goOn 56 = .ok (.invokevirtual 84, 3) := by decide +kernel
theorem d_Machine_goOn_59 : decode b_Machine_goOn 59 = .ok (.aload_n 0, 1) := by decide +kernel
theorem d_Machine_goOn_60 : decode b_Machine_goOn 60 = .ok (.invokevirtual 65, 3) := by decide +kernel
theorem d_Machine_goOn_63 : decode b_Machine_goOn 63 = .ok (.iinc 4 1, 3) := by decide +kernel
theorem d_Machine_goOn_66 : decode b_Machine_goOn 66 = .ok (.goto (-53), 3) := by decide +kernel
theorem d_Machine_goOn_69 : decode b_Machine_goOn 69 = .ok (.iload_n 3, 1) := by decide +kernel
theorem d_Machine_goOn_70 : decode b_Machine_goOn 70 = .ok (.ireturn, 1) := by decide +kernel
theorem lk_Machine_68 : Cond.methodLink "TurtleWorld$Machine" 68 ⟨"java/lang/Math", "min", "(II)I"⟩ ∈ tw_T := tw_i5 198 (by decide +kernel) (by decide +kernel)
theorem st_Math_min : Cond.static ⟨"java/lang/Math", "min", "(II)I"⟩ ∈ tw_T := tw_i1 168 (by decide +kernel) (by decide +kernel)
theorem lk_Machine_74 : Cond.fieldLink "TurtleWorld$Machine" 74 "TurtleWorld$Line" "state" "I" ∈ tw_T := tw_i2 236 (by decide +kernel) (by decide +kernel)
theorem d_World_run_0 : decode b_World_run 0 = .ok (.aload_n 0, 1) := by decide +kernel
theorem d_World_run_1 : decode b_World_run 1 = .ok (.getfield 84, 3) := by decide +kernel
theorem d_World_run_4 : decode b_World_run 4 = .ok (.iload_n 1, 1) := by decide +kernel
theorem d_World_run_5 : decode b_World_run 5 = .ok (.invokevirtual 138, 3) := by decide +kernel
theorem d_World_run_8 : decode b_World_run 8 = .ok (.ireturn, 1) := by decide +kernel
theorem lk_World_138 : Cond.methodLink "TurtleWorld" 138 ⟨"TurtleWorld$Machine", "goOn", "(I)I"⟩ ∈ tw_T := tw_i5 194 (by decide +kernel) (by decide +kernel)
theorem in_Machine_goOn : Cond.instanceMethod ⟨"TurtleWorld$Machine", "goOn", "(I)I"⟩ ∈ tw_T := tw_i5 195 (by decide +kernel) (by decide +kernel)
theorem sel_Machine_goOn : Cond.selects "TurtleWorld$Machine" ⟨"TurtleWorld$Machine", "goOn", "(I)I"⟩ ⟨"TurtleWorld$Machine", "goOn", "(I)I"⟩ ∈ tw_T := tw_i5 196 (by decide +kernel) (by decide +kernel)
theorem d_World_go_0 : decode b_World_go 0 = .ok (.aload_n 0, 1) := by decide +kernel
theorem d_World_go_1 : decode b_World_go 1 = .ok (.getfield 115, 3) := by decide +kernel
theorem d_World_go_4 : decode b_World_go 4 = .ok (.ifCond .eq 18, 3) := by decide +kernel
theorem d_World_go_7 : decode b_World_go 7 = .ok (.iload_n 1, 1) := by decide +kernel
theorem d_World_go_8 : decode b_World_go 8 = .ok (.ifCond .lt 14, 3) := by decide +kernel
theorem d_World_go_11 : decode b_World_go 11 = .ok (.iload_n 1, 1) := by decide +kernel
theorem d_World_go_12 : decode b_World_go 12 = .ok (.aload_n 0, 1) := by decide +kernel
theorem d_World_go_13 : decode b_World_go 13 = .ok (.getfield 63, 3) := by decide +kernel
theorem d_World_go_16 : decode b_World_go 16 = .ok (.getfield 141, 3) := by decide +kernel
theorem d_World_go_19 : decode b_World_go 19 = .ok (.if_icmp .le 5, 3) := by decide +kernel
theorem d_World_go_22 : decode b_World_go 22 = .ok (.iconst 0, 1) := by decide +kernel
theorem d_World_go_23 : decode b_World_go 23 = .ok (.ireturn, 1) := by decide +kernel
theorem d_World_go_24 : decode b_World_go 24 = .ok (.aload_n 0, 1) := by decide +kernel
theorem d_World_go_25 : decode b_World_go 25 = .ok (.invokevirtual 144, 3) := by decide +kernel
theorem d_World_go_28 : decode b_World_go 28 = .ok (.aload_n 0, 1) := by decide +kernel
theorem d_World_go_29 : decode b_World_go 29 = .ok (.getfield 84, 3) := by decide +kernel
theorem d_World_go_32 : decode b_World_go 32 = .ok (.aload_n 0, 1) := by decide +kernel
theorem d_World_go_33 : decode b_World_go 33 = .ok (.getfield 125, 3) := by decide +kernel
theorem d_World_go_36 : decode b_World_go 36 = .ok (.invokevirtual 128, 3) := by decide +kernel
theorem d_World_go_39 : decode b_World_go 39 = .ok (.aload_n 0, 1) := by decide +kernel
theorem d_World_go_40 : decode b_World_go 40 = .ok (.getfield 84, 3) := by decide +kernel
theorem d_World_go_43 : decode b_World_go 43 = .ok (.iload_n 1, 1) := by decide +kernel
theorem d_World_go_44 : decode b_World_go 44 = .ok (.invokevirtual 138, 3) := by decide +kernel
theorem d_World_go_47 : decode b_World_go 47 = .ok (.pop, 1) := by decide +kernel
theorem d_World_go_48 : decode b_World_go 48 = .ok (.iconst 1, 1) := by decide +kernel
theorem d_World_go_49 : decode b_World_go 49 = .ok (.ireturn, 1) := by decide +kernel
theorem lk_World_115 : Cond.fieldLink "TurtleWorld" 115 "TurtleWorld" "canGoBack" "Z" ∈ tw_T := tw_i3 206 (by decide +kernel) (by decide +kernel)
theorem d_World_stop_0 : decode b_World_stop 0 = .ok (.aload_n 0, 1) := by decide +kernel
theorem d_World_stop_1 : decode b_World_stop 1 = .ok (.getfield 63, 3) := by decide +kernel
theorem d_World_stop_4 : decode b_World_stop 4 = .ok (.getfield 100, 3) := by decide +kernel
theorem d_World_stop_7 : decode b_World_stop 7 = .ok (.iconst 1, 1) := by decide +kernel
theorem d_World_stop_8 : decode b_World_stop 8 = .ok (.if_icmp .eq 5, 3) := by decide +kernel
theorem d_World_stop_11 : decode b_World_stop 11 = .ok (.iconst 0, 1) := by decide +kernel
theorem d_World_stop_12 : decode b_World_stop 12 = .ok (.ireturn, 1) := by decide +kernel
theorem d_World_stop_13 : decode b_World_stop 13 = .ok (.aload_n 0, 1) := by decide +kernel
theorem d_World_stop_14 : decode b_World_stop 14 = .ok (.getfield 84, 3) := by decide +kernel
theorem d_World_stop_17 : decode b_World_stop 17 = .ok (.iconst 4, 1) := by decide +kernel
theorem d_World_stop_18 : decode b_World_stop 18 = .ok (.iconst 0, 1) := by decide +kernel
theorem d_World_stop_19 : decode b_World_stop 19 = .ok (.invokevirtual 147, 3) := by decide +kernel
theorem d_World_stop_22 : decode b_World_stop 22 = .ok (.iconst 1, 1) := by decide +kernel
theorem d_World_stop_23 : decode b_World_stop 23 = .ok (.ireturn, 1) := by decide +kernel
theorem d_Output_latest_0 : decode b_Output_latest 0 = .ok (.iload_n 1, 1) := by decide +kernel
theorem d_Output_latest_1 : decode b_Output_latest 1 = .ok (.ifCond .lt 33, 3) := by decide +kernel
theorem d_Output_latest_4 : decode b_Output_latest 4 = .ok (.iload_n 1, 1) := by decide +kernel
theorem d_Output_latest_5 : decode b_Output_latest 5 = .ok (.aload_n 0, 1) := by decide +kernel
theorem d_Output_latest_6 : decode b_Output_latest 6 = .ok (.getfield 64, 3) := by decide +kernel
theorem d_Output_latest_9 : decode b_Output_latest 9 = .ok (.if_icmp .ge 25, 3) := by decide +kernel
theorem d_Output_latest_12 : decode b_Output_latest 12 = .ok (.aload_n 0, 1) := by decide +kernel
theorem d_Output_latest_13 : decode b_Output_latest 13 = .ok (.getfield 11, 3) := by decide +kernel
theorem d_Output_latest_16 : decode b_Output_latest 16 = .ok (.aload_n 0, 1) := by decide +kernel
theorem d_Output_latest_17 : decode b_Output_latest 17 = .ok (.getfield 61, 3) := by decide +kernel
theorem d_Output_latest_20 : decode b_Output_latest 20 = .ok (.iconst 1, 1) := by decide +kernel
theorem d_Output_latest_21 : decode b_Output_latest 21 = .ok (.isub, 1) := by decide +kernel
theorem d_Output_latest_22 : decode b_Output_latest 22 = .ok (.iload_n 1, 1) := by decide +kernel
theorem d_Output_latest_23 : decode b_Output_latest 23 = .ok (.isub, 1) := by decide +kernel
theorem d_Output_latest_24 : decode b_Output_latest 24 = .ok (.sipush 2000, 3) := by decide +kernel
theorem d_Output_latest_27 : decode b_Output_latest 27 = .ok (.invokestatic 72, 3) := by decide +kernel
theorem d_Output_latest_30 : decode b_Output_latest 30 = .ok (.iaload, 1) := by decide +kernel
theorem d_Output_latest_31 : decode b_Output_latest 31 = .ok (.goto 4, 3) := by decide +kernel
theorem d_Output_latest_34 : decode b_Output_latest 34 = .ok (.iconst (-1), 1) := by decide +kernel
theorem d_Output_latest_35 : decode b_Output_latest 35 = .ok (.ireturn, 1) := by decide +kernel
theorem d_World_out_0 : decode b_World_out 0 = .ok (.aload_n 0, 1) := by decide +kernel
theorem d_World_out_1 : decode b_World_out 1 = .ok (.getfield 47, 3) := by decide +kernel
theorem d_World_out_4 : decode b_World_out 4 = .ok (.iload_n 1, 1) := by decide +kernel
theorem d_World_out_5 : decode b_World_out 5 = .ok (.invokevirtual 203, 3) := by decide +kernel
theorem d_World_out_8 : decode b_World_out 8 = .ok (.ireturn, 1) := by decide +kernel
theorem lk_World_203 : Cond.methodLink "TurtleWorld" 203 ⟨"TurtleWorld$Output", "latest", "(I)I"⟩ ∈ tw_T := tw_i7 169 (by decide +kernel) (by decide +kernel)
theorem in_Output_latest : Cond.instanceMethod ⟨"TurtleWorld$Output", "latest", "(I)I"⟩ ∈ tw_T := tw_i7 170 (by decide +kernel) (by decide +kernel)
theorem sel_Output_latest : Cond.selects "TurtleWorld$Output" ⟨"TurtleWorld$Output", "latest", "(I)I"⟩ ⟨"TurtleWorld$Output", "latest", "(I)I"⟩ ∈ tw_T := tw_i7 171 (by decide +kernel) (by decide +kernel)
theorem d_World_value_0 : decode b_World_value 0 = .ok (.aload_n 0, 1) := by decide +kernel
theorem d_World_value_1 : decode b_World_value 1 = .ok (.getfield 26, 3) := by decide +kernel
theorem d_World_value_4 : decode b_World_value 4 = .ok (.iload_n 1, 1) := by decide +kernel
theorem d_World_value_5 : decode b_World_value 5 = .ok (.invokevirtual 212, 3) := by decide +kernel
theorem d_World_value_8 : decode b_World_value 8 = .ok (.istore_n 3, 1) := by decide +kernel
theorem d_World_value_9 : decode b_World_value 9 = .ok (.iload_n 3, 1) := by decide +kernel
theorem d_World_value_10 : decode b_World_value 10 = .ok (.ldc 215, 2) := by decide +kernel
theorem d_World_value_12 : decode b_World_value 12 = .ok (.if_icmp .ne 5, 3) := by decide +kernel
theorem d_World_value_15 : decode b_World_value 15 = .ok (.iconst (-1), 1) := by decide +kernel
theorem d_World_value_16 : decode b_World_value 16 = .ok (.ireturn, 1) := by decide +kernel
theorem d_World_value_17 : decode b_World_value 17 = .ok (.aload_n 0, 1) := by decide +kernel
theorem d_World_value_18 : decode b_World_value 18 = .ok (.getfield 47, 3) := by decide +kernel
theorem d_World_value_21 : decode b_World_value 21 = .ok (.invokevirtual 216, 3) := by decide +kernel
theorem d_World_value_24 : decode b_World_value 24 = .ok (.aload_n 0, 1) := by decide +kernel
theorem d_World_value_25 : decode b_World_value 25 = .ok (.getfield 47, 3) := by decide +kernel
theorem d_World_value_28 : decode b_World_value 28 = .ok (.iload_n 3, 1) := by decide +kernel
theorem d_World_value_29 : decode b_World_value 29 = .ok (.iconst 0, 1) := by decide +kernel
theorem d_World_value_30 : decode b_World_value 30 = .ok (.invokevirtual 218, 3) := by decide +kernel
theorem d_World_value_33 : decode b_World_value 33 = .ok (.aload_n 0, 1) := by decide +kernel
theorem d_World_value_34 : decode b_World_value 34 = .ok (.getfield 47, 3) := by decide +kernel
theorem d_World_value_37 : decode b_World_value 37 = .ok (.iload_n 2, 1) := by decide +kernel
theorem d_World_value_38 : decode b_World_value 38 = .ok (.invokevirtual 222, 3) := by decide +kernel
theorem d_World_value_41 : decode b_World_value 41 = .ok (.ireturn, 1) := by decide +kernel
theorem lk_World_212 : Cond.methodLink "TurtleWorld" 212 ⟨"TurtleWorld$Names", "globalValue", "(I)I"⟩ ∈ tw_T := tw_i7 190 (by decide +kernel) (by decide +kernel)
theorem in_Names_globalValue : Cond.instanceMethod ⟨"TurtleWorld$Names", "globalValue", "(I)I"⟩ ∈ tw_T := tw_i7 191 (by decide +kernel) (by decide +kernel)
theorem sel_Names_globalValue : Cond.selects "TurtleWorld$Names" ⟨"TurtleWorld$Names", "globalValue", "(I)I"⟩ ⟨"TurtleWorld$Names", "globalValue", "(I)I"⟩ ∈ tw_T := tw_i7 192 (by decide +kernel) (by decide +kernel)
theorem lk_World_215 : Cond.constant "TurtleWorld" 215 (-2147483648) ∈ tw_T := tw_i7 194 (by decide +kernel) (by decide +kernel)
