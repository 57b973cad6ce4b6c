theorem d_Machine_goOn_0 : decode b_Machine_goOn 0 = .ok (.iload_n 1, 1) := by decide +kernel
theorem d_Machine_goOn_1 : decode b_Machine_goOn 1 = .ok (.sipush 20000, 3) := by decide +kernel
theorem d_Machine_goOn_4 : decode b_Machine_goOn 4 = .ok (.invokestatic 68, 3) := by decide +kernel
theorem d_Machine_goOn_7 : decode b_Machine_goOn 7 = .ok (.istore_n 2, 1) := by decide +kernel
theorem d_Machine_goOn_8 : decode b_Machine_goOn 8 = .ok (.iconst 0, 1) := by decide +kernel
theorem d_Machine_goOn_9 : decode b_Machine_goOn 9 = .ok (.istore_n 3, 1) := by decide +kernel
theorem d_Machine_goOn_10 : decode b_Machine_goOn 10 = .ok (.iconst 0, 1) := by decide +kernel
theorem d_Machine_goOn_11 : decode b_Machine_goOn 11 = .ok (.istore 4, 2) := by decide +kernel
theorem d_Machine_goOn_13 : decode b_Machine_goOn 13 = .ok (.iload 4, 2) := by decide +kernel
theorem d_Machine_goOn_15 : decode b_Machine_goOn 15 = .ok (.iload_n 2, 1) := by decide +kernel
theorem d_Machine_goOn_16 : decode b_Machine_goOn 16 = .ok (.if_icmp .ge 53, 3) := by decide +kernel
theorem d_Machine_goOn_19 : decode b_Machine_goOn 19 = .ok (.aload_n 0, 1) := by decide +kernel
theorem d_Machine_goOn_20 : decode b_Machine_goOn 20 = .ok (.getfield 18, 3) := by decide +kernel
theorem d_Machine_goOn_23 : decode b_Machine_goOn 23 = .ok (.getfield 74, 3) := by decide +kernel
theorem d_Machine_goOn_26 : decode b_Machine_goOn 26 = .ok (.iconst 1, 1) := by decide +kernel
theorem d_Machine_goOn_27 : decode b_Machine_goOn 27 = .ok (.if_icmp .ne 42, 3) := by decide +kernel
theorem d_Machine_goOn_30 : decode b_Machine_goOn 30 = .ok (.aload_n 0, 1) := by decide +kernel
theorem d_Machine_goOn_31 : decode b_Machine_goOn 31 = .ok (.getfield 18, 3) := by decide +kernel
theorem d_Machine_goOn_34 : decode b_Machine_goOn 34 = .ok (.dup, 1) := by decide +kernel
theorem d_Machine_goOn_35 : decode b_Machine_goOn 35 = .ok (.getfield 77, 3) := by decide +kernel
theorem d_Machine_goOn_38 : decode b_Machine_goOn 38 = .ok (.iconst 1, 1) := by decide +kernel
theorem d_Machine_goOn_39 : decode b_Machine_goOn 39 = .ok (.iadd, 1) := by decide +kernel
theorem d_Machine_goOn_40 : decode b_Machine_goOn 40 = .ok (.putfield 77, 3) := by decide +kernel
theorem d_Machine_goOn_43 : decode b_Machine_goOn 43 = .ok (.iinc 3 1, 3) := by decide +kernel
theorem d_Machine_goOn_46 : decode b_Machine_goOn 46 = .ok (.aload_n 0, 1) := by decide +kernel
theorem d_Machine_goOn_47 : decode b_Machine_goOn 47 = .ok (.iconst 0, 1) := by decide +kernel
theorem d_Machine_goOn_48 : decode b_Machine_goOn 48 = .ok (.putfield 62, 3) := by decide +kernel
theorem d_Machine_goOn_51 : decode b_Machine_goOn 51 = .ok (.aload_n 0, 1) := by decide +kernel
theorem d_Machine_goOn_52 : decode b_Machine_goOn 52 = .ok (.aload_n 0, 1) := by decide +kernel
theorem d_Machine_goOn_53 : decode b_Machine_goOn 53 = .ok (.invokevirtual 80, 3) := by decide +kernel
theorem d_Machine_goOn_56 : decode b_Machine_goOn 56 = .ok (.invokevirtual 84, 3) := by decide +kernel
theorem d_Machine_goOn_59 : decode b_Machine_goOn 59 = .ok (.aload_n 0, 1) := by decide +kernel
theorem d_Machine_goOn_60 : decode b_Machine_goOn 60 = .ok (.invokevirtual 65, 3) := by decide +kernel
theorem d_Machine_goOn_63 : decode b_Machine_goOn 63 = .ok (.iinc 4 1, 3) := by decide +kernel
theorem d_Machine_goOn_66 : decode b_Machine_goOn 66 = .ok (.goto (-53), 3) := by decide +kernel
theorem d_Machine_goOn_69 : decode b_Machine_goOn 69 = .ok (.iload_n 3, 1) := by decide +kernel
theorem d_Machine_goOn_70 : decode b_Machine_goOn 70 = .ok (.ireturn, 1) := by decide +kernel
theorem lk_Machine_68 : Cond.methodLink "TurtleWorld$Machine" 68 ⟨"java/lang/Math", "min", "(II)I"⟩ ∈ tw_T := tw_i5 198 (by decide +kernel) (by decide +kernel)
theorem st_Math_min : Cond.static ⟨"java/lang/Math", "min", "(II)I"⟩ ∈ tw_T := tw_i1 168 (by decide +kernel) (by decide +kernel)
theorem lk_Machine_74 : Cond.fieldLink "TurtleWorld$Machine" 74 "TurtleWorld$Line" "state" "I" ∈ tw_T := tw_i2 236 (by decide +kernel) (by decide +kernel)
theorem d_World_run_0 : decode b_World_run 0 = .ok (.aload_n 0, 1) := by decide +kernel
theorem d_World_run_1 : decode b_World_run 1 = .ok (.getfield 84, 3) := by decide +kernel
theorem d_World_run_4 : decode b_World_run 4 = .ok (.iload_n 1, 1) := by decide +kernel
theorem d_World_run_5 : decode b_World_run 5 = .ok (.invokevirtual 138, 3) := by decide +kernel
theorem d_World_run_8 : decode b_World_run 8 = .ok (.ireturn, 1) := by decide +kernel
theorem lk_World_138 : Cond.methodLink "TurtleWorld" 138 ⟨"TurtleWorld$Machine", "goOn", "(I)I"⟩ ∈ tw_T := tw_i5 194 (by decide +kernel) (by decide +kernel)
theorem in_Machine_goOn : Cond.instanceMethod ⟨"TurtleWorld$Machine", "goOn", "(I)I"⟩ ∈ tw_T := tw_i5 195 (by decide +kernel) (by decide +kernel)
theorem sel_Machine_goOn : Cond.selects "TurtleWorld$Machine" ⟨"TurtleWorld$Machine", "goOn", "(I)I"⟩ ⟨"TurtleWorld$Machine", "goOn", "(I)I"⟩ ∈ tw_T := tw_i5 196 (by decide +kernel) (by decide +kernel)
theorem d_World_go_0 : decode b_World_go 0 = .ok (.aload_n 0, 1) := by decide +kernel
theorem d_World_go_1 : decode b_World_go 1 = .ok (.getfield 115, 3) := by decide +kernel
theorem d_World_go_4 : decode b_World_go 4 = .ok (.ifCond .eq 18, 3) := by decide +kernel
theorem d_World_go_7 : decode b_World_go 7 = .ok (.iload_n 1, 1) := by decide +kernel
theorem d_World_go_8 : decode b_World_go 8 = .ok (.ifCond .lt 14, 3) := by decide +kernel
theorem d_World_go_11 : decode b_World_go 11 = .ok (.iload_n 1, 1) := by decide +kernel
theorem d_World_go_12 : decode b_World_go 12 = .ok (.aload_n 0, 1) := by decide +kernel
theorem d_World_go_13 : decode b_World_go 13 = .ok (.getfield 63, 3) := by decide +kernel
theorem d_World_go_16 : decode b_World_go 16 = .ok (.getfield 141, 3) := by decide +kernel
theorem d_World_go_19 : decode b_World_go 19 = .ok (.if_icmp .le 5, 3) := by decide +kernel
theorem d_World_go_22 : decode b_World_go 22 = .ok (.iconst 0, 1) := by decide +kernel
theorem d_World_go_23 : decode b_World_go 23 = .ok (.ireturn, 1) := by decide +kernel
theorem d_World_go_24 : decode b_World_go 24 = .ok (.aload_n 0, 1) := by decide +kernel
theorem d_World_go_25 : decode b_World_go 25 = .ok (.invokevirtual 144, 3) := by decide +kernel
theorem d_World_go_28 : decode b_World_go 28 = .ok (.aload_n 0, 1) := by decide +kernel
theorem d_World_go_29 : decode b_World_go 29 = .ok (.getfield 84, 3) := by decide +kernel
theorem d_World_go_32 : decode b_World_go 32 = .ok (.aload_n 0, 1) := by decide +kernel
theorem d_World_go_33 : decode b_World_go 33 = .ok (.getfield 125, 3) := by decide +kernel
theorem d_World_go_36 : decode b_World_go 36 = .ok (.invokevirtual 128, 3) := by decide +kernel
theorem d_World_go_39 : decode b_World_go 39 = .ok (.aload_n 0, 1) := by decide +kernel
theorem d_World_go_40 : decode b_World_go 40 = .ok (.getfield 84, 3) := by decide +kernel
theorem d_World_go_43 : decode b_World_go 43 = .ok (.iload_n 1, 1) := by decide +kernel
theorem d_World_go_44 : decode b_World_go 44 = .ok (.invokevirtual 138, 3) := by decide +kernel
theorem d_World_go_47 : decode b_World_go 47 = .ok (.pop, 1) := by decide +kernel
theorem d_World_go_48 : decode b_World_go 48 = .ok (.iconst 1, 1) := by decide +kernel
theorem d_World_go_49 : decode b_World_go 49 = .ok (.ireturn, 1) := by decide +kernel
theorem lk_World_115 : Cond.fieldLink "TurtleWorld" 115 "TurtleWorld" "canGoBack" "Z" ∈ tw_T := tw_i3 206 (by decide +kernel) (by decide +kernel)
theorem d_World_stop_0 : decode b_World_stop 0 = .ok (.aload_n 0, 1) := by decide +kernel
theorem d_World_stop_1 : decode b_World_stop 1 = .ok (.getfield 63, 3) := by decide +kernel
theorem d_World_stop_4 : decode b_World_stop 4 = .ok (.getfield 100, 3) := by decide +kernel
theorem d_World_stop_7 : decode b_World_stop 7 = .ok (.iconst 1, 1) := by decide +kernel
theorem d_World_stop_8 : decode b_World_stop 8 = .ok (.if_icmp .eq 5, 3) := by decide +kernel
theorem d_World_stop_11 : decode b_World_stop 11 = .ok (.iconst 0, 1) := by decide +kernel
theorem d_World_stop_12 : decode b_World_stop 12 = .ok (.ireturn, 1) := by decide +kernel
theorem d_World_stop_13 : decode b_World_stop 13 = .ok (.aload_n 0, 1) := by decide +kernel
theorem d_World_stop_14 : decode b_World_stop 14 = .ok (.getfield 84, 3) := by decide +kernel
theorem d_World_stop_17 : decode b_World_stop 17 = .ok (.iconst 4, 1) := by decide +kernel
theorem d_World_stop_18 : decode b_World_stop 18 = .ok (.iconst 0, 1) := by decide +kernel
theorem d_World_stop_19 : decode b_World_stop 19 = .ok (.invokevirtual 147, 3) := by decide +kernel
theorem d_World_stop_22 : decode b_World_stop 22 = .ok (.iconst 1, 1) := by decide +kernel
theorem d_World_stop_23 : decode b_World_stop 23 = .ok (.ireturn, 1) := by decide +kernel
theorem d_Output_latest_0 : decode b_Output_latest 0 = .ok (.iload_n 1, 1) := by decide +kernel
theorem d_Output_latest_1 : decode b_Output_latest 1 = .ok (.ifCond .lt 33, 3) := by decide +kernel
theorem d_Output_latest_4 : decode b_Output_latest 4 = .ok (.iload_n 1, 1) := by decide +kernel
theorem d_Output_latest_5 : decode b_Output_latest 5 = .ok (.aload_n 0, 1) := by decide +kernel
theorem d_Output_latest_6 : decode b_Output_latest 6 = .ok (.getfield 64, 3) := by decide +kernel
theorem d_Output_latest_9 : decode b_Output_latest 9 = .ok (.if_icmp .ge 25, 3) := by decide +kernel
theorem d_Output_latest_12 : decode b_Output_latest 12 = .ok (.aload_n 0, 1) := by decide +kernel
theorem d_Output_latest_13 : decode b_Output_latest 13 = .ok (.getfield 11, 3) := by decide +kernel
theorem d_Output_latest_16 : decode b_Output_latest 16 = .ok (.aload_n 0, 1) := by decide +kernel
theorem d_Output_latest_17 : decode b_Output_latest 17 = .ok (.getfield 61, 3) := by decide +kernel
theorem d_Output_latest_20 : decode b_Output_latest 20 = .ok (.iconst 1, 1) := by decide +kernel
theorem d_Output_latest_21 : decode b_Output_latest 21 = .ok (.isub, 1) := by decide +kernel
theorem d_Output_latest_22 : decode b_Output_latest 22 = .ok (.iload_n 1, 1) := by decide +kernel
theorem d_Output_latest_23 : decode b_Output_latest 23 = .ok (.isub, 1) := by decide +kernel
theorem d_Output_latest_24 : decode b_Output_latest 24 = .ok (.sipush 2000, 3) := by decide +kernel
theorem d_Output_latest_27 : decode b_Output_latest 27 = .ok (.invokestatic 72, 3) := by decide +kernel
theorem d_Output_latest_30 : decode b_Output_latest 30 = .ok (.iaload, 1) := by decide +kernel
theorem d_Output_latest_31 : decode b_Output_latest 31 = .ok (.goto 4, 3) := by decide +kernel
theorem d_Output_latest_34 : decode b_Output_latest 34 = .ok (.iconst (-1), 1) := by decide +kernel
theorem d_Output_latest_35 : decode b_Output_latest 35 = .ok (.ireturn, 1) := by decide +kernel
theorem d_World_out_0 : decode b_World_out 0 = .ok (.aload_n 0, 1) := by decide +kernel
theorem d_World_out_1 : decode b_World_out 1 = .ok (.getfield 47, 3) := by decide +kernel
theorem d_World_out_4 : decode b_World_out 4 = .ok (.iload_n 1, 1) := by decide +kernel
theorem d_World_out_5 : decode b_World_out 5 = .ok (.invokevirtual 203, 3) := by decide +kernel
theorem d_World_out_8 : decode b_World_out 8 = .ok (.ireturn, 1) := by decide +kernel
theorem lk_World_203 : Cond.methodLink "TurtleWorld" 203 ⟨"TurtleWorld$Output", "latest", "(I)I"⟩ ∈ tw_T := tw_i7 169 (by decide +kernel) (by decide +kernel)
theorem in_Output_latest : Cond.instanceMethod ⟨"TurtleWorld$Output", "latest", "(I)I"⟩ ∈ tw_T := tw_i7 170 (by decide +kernel) (by decide +kernel)
theorem sel_Output_latest : Cond.selects "TurtleWorld$Output" ⟨"TurtleWorld$Output", "latest", "(I)I"⟩ ⟨"TurtleWorld$Output", "latest", "(I)I"⟩ ∈ tw_T := tw_i7 171 (by decide +kernel) (by decide +kernel)
theorem d_World_value_0 : decode b_World_value 0 = .ok (.aload_n 0, 1) := by decide +kernel
theorem d_World_value_1 : decode b_World_value 1 = .ok (.getfield 26, 3) := by decide +kernel
theorem d_World_value_4 : decode b_World_value 4 = .ok (.iload_n 1, 1) := by decide +kernel
theorem d_World_value_5 : decode b_World_value 5 = .ok (.invokevirtual 212, 3) := by decide +kernel
theorem d_World_value_8 : decode b_World_value 8 = .ok (.istore_n 3, 1) := by decide +kernel
theorem d_World_value_9 : decode b_World_value 9 = .ok (.iload_n 3, 1) := by decide +kernel
theorem d_World_value_10 : decode b_World_value 10 = .ok (.ldc 215, 2) := by decide +kernel
theorem d_World_value_12 : decode b_World_value 12 = .ok (.if_icmp .ne 5, 3) := by decide +kernel
theorem d_World_value_15 : decode b_World_value 15 = .ok (.iconst (-1), 1) := by decide +kernel
theorem d_World_value_16 : decode b_World_value 16 = .ok (.ireturn, 1) := by decide +kernel
theorem d_World_value_17 : decode b_World_value 17 = .ok (.aload_n 0, 1) := by decide +kernel
theorem d_World_value_18 : decode b_World_value 18 = .ok (.getfield 47, 3) := by decide +kernel
theorem d_World_value_21 : decode b_World_value 21 = .ok (.invokevirtual 216, 3) := by decide +kernel
theorem d_World_value_24 : decode b_World_value 24 = .ok (.aload_n 0, 1) := by decide +kernel
theorem d_World_value_25 : decode b_World_value 25 = .ok (.getfield 47, 3) := by decide +kernel
theorem d_World_value_28 : decode b_World_value 28 = .ok (.iload_n 3, 1) := by decide +kernel
theorem d_World_value_29 : decode b_World_value 29 = .ok (.iconst 0, 1) := by decide +kernel
theorem d_World_value_30 : decode b_World_value 30 = .ok (.invokevirtual 218, 3) := by decide +kernel
theorem d_World_value_33 : decode b_World_value 33 = .ok (.aload_n 0, 1) := by decide +kernel
theorem d_World_value_34 : decode b_World_value 34 = .ok (.getfield 47, 3) := by decide +kernel
theorem d_World_value_37 : decode b_World_value 37 = .ok (.iload_n 2, 1) := by decide +kernel
theorem d_World_value_38 : decode b_World_value 38 = .ok (.invokevirtual 222, 3) := by decide +kernel
theorem d_World_value_41 : decode b_World_value 41 = .ok (.ireturn, 1) := by decide +kernel
theorem lk_World_212 : Cond.methodLink "TurtleWorld" 212 ⟨"TurtleWorld$Names", "globalValue", "(I)I"⟩ ∈ tw_T := tw_i7 190 (by decide +kernel) (by decide +kernel)
theorem in_Names_globalValue : Cond.instanceMethod ⟨"TurtleWorld$Names", "globalValue", "(I)I"⟩ ∈ tw_T := tw_i7 191 (by decide +kernel) (by decide +kernel)
theorem sel_Names_globalValue : Cond.selects "TurtleWorld$Names" ⟨"TurtleWorld$Names", "globalValue", "(I)I"⟩ ⟨"TurtleWorld$Names", "globalValue", "(I)I"⟩ ∈ tw_T := tw_i7 192 (by decide +kernel) (by decide +kernel)
theorem lk_World_215 : Cond.constant "TurtleWorld" 215 (-2147483648) ∈ tw_T := tw_i7 194 (by decide +kernel) (by decide +kernel)
set_option maxHeartbeats 4000000 in
set_option maxRecDepth 100000 in
/-- goOn, where no LINE is under way -/
theorem c_Machine_goOn_idle (l : Launch) (dC : Nat → ClassId) (dI : Nat → Nat → Nat) (sz : Nat) (h0 : Nat) (m_heap : Nat) (m_line : Nat) (m_waiting : Nat) (m_names : Nat) (m_procedures : Nat) (m_turtles : Nat) (m_deeds : Nat) (m_phase : Int32) (m_got : Int32) (l_heap : Nat) (l_state : Int32) (l_error : Int32) (l_done : Int32) (l_made : Int32) (l_caught : Int32) (l_depth : Int32) (l_calls : Int32) (l_kind : Nat) (l_list : Nat) (l_next : Nat) (l_turns : Nat) (l_limit : Nat) (l_other : Nat) (l_mark : Nat) (l_waits : Nat) (l_values : Nat) (l_locals : Nat) (n : Int32) (hs : ¬ l_state = 1) : Met l y_Machine_goOn w_Machine_goOn ({ frames := 1, cells := 0, slots := 0, locals := 21 }) (va_Pc [.ref h0, .int n] (fun U => U.heap.size = sz ∧ va_P (dC, dI) classes [(h0, .inr (11, [.ref m_heap, .ref m_line, .ref m_waiting, .ref m_names, .ref m_procedures, .ref m_turtles, .ref m_deeds, .int m_phase, .int m_got])), (m_line, .inr (8, [.ref l_heap, .int l_state, .int l_error, .int l_done, .int l_made, .int l_caught, .int l_depth, .int l_calls, .ref l_kind, .ref l_list, .ref l_next, .ref l_turns, .ref l_limit, .ref l_other, .ref l_mark, .ref l_waits, .ref l_values, .ref l_locals]))] U.heap ∧ va_K (dC, dI) classes [] U ∧ va_D (fun _ => True) [(h0, .inr (11, [.ref m_heap, .ref m_line, .ref m_waiting, .ref m_names, .ref m_procedures, .ref m_turtles, .ref m_deeds, .int m_phase, .int m_got])), (m_line, .inr (8, [.ref l_heap, .int l_state, .int l_error, .int l_done, .int l_made, .int l_caught, .int l_depth, .int l_calls, .ref l_kind, .ref l_list, .ref l_next, .ref l_turns, .ref l_limit, .ref l_other, .ref l_mark, .ref l_waits, .ref l_values, .ref l_locals]))])) (va_Qi (fun (r : Int32) (_ : Unit) => r = 0) (fun (_ : Unit) t => va_P (dC, dI) classes [(h0, .inr (11, [.ref m_heap, .ref m_line, .ref m_waiting, .ref m_names, .ref m_procedures, .ref m_turtles, .ref m_deeds, .int m_phase, .int m_got])), (m_line, .inr (8, [.ref l_heap, .int l_state, .int l_error, .int l_done, .int l_made, .int l_caught, .int l_depth, .int l_calls, .ref l_kind, .ref l_list, .ref l_next, .ref l_turns, .ref l_limit, .ref l_other, .ref l_mark, .ref l_waits, .ref l_values, .ref l_locals]))] t.heap ∧ va_K (dC, dI) classes [] t ∧ va_D (va_A [(h0, .inr (11, [.ref m_heap, .ref m_line, .ref m_waiting, .ref m_names, .ref m_procedures, .ref m_turtles, .ref m_deeds, .int m_phase, .int m_got])), (m_line, .inr (8, [.ref l_heap, .int l_state, .int l_error, .int l_done, .int l_made, .int l_caught, .int l_depth, .int l_calls, .ref l_kind, .ref l_list, .ref l_next, .ref l_turns, .ref l_limit, .ref l_other, .ref l_mark, .ref l_waits, .ref l_values, .ref l_locals]))] sz) [(h0, .inr (11, [.ref m_heap, .ref m_line, .ref m_waiting, .ref m_names, .ref m_procedures, .ref m_turtles, .ref m_deeds, .int m_phase, .int m_got])), (m_line, .inr (8, [.ref l_heap, .int l_state, .int l_error, .int l_done, .int l_made, .int l_caught, .int l_depth, .int l_calls, .ref l_kind, .ref l_list, .ref l_next, .ref l_turns, .ref l_limit, .ref l_other, .ref l_mark, .ref l_waits, .ref l_values, .ref l_locals]))]) (va_A [(h0, .inr (11, [.ref m_heap, .ref m_line, .ref m_waiting, .ref m_names, .ref m_procedures, .ref m_turtles, .ref m_deeds, .int m_phase, .int m_got])), (m_line, .inr (8, [.ref l_heap, .int l_state, .int l_error, .int l_done, .int l_made, .int l_caught, .int l_depth, .int l_calls, .ref l_kind, .ref l_list, .ref l_next, .ref l_turns, .ref l_limit, .ref l_other, .ref l_mark, .ref l_waits, .ref l_values, .ref l_locals]))] sz)) 0 0 (va_A [(h0, .inr (11, [.ref m_heap, .ref m_line, .ref m_waiting, .ref m_names, .ref m_procedures, .ref m_turtles, .ref m_deeds, .int m_phase, .int m_got])), (m_line, .inr (8, [.ref l_heap, .int l_state, .int l_error, .int l_done, .int l_made, .int l_caught, .int l_depth, .int l_calls, .ref l_kind, .ref l_list, .ref l_next, .ref l_turns, .ref l_limit, .ref l_other, .ref l_mark, .ref l_waits, .ref l_values, .ref l_locals]))] sz) := by
  refine Met.ofW (cc := b_Machine_goOn) (maxL := 5) (ret := (some .int)) (by decide) rfl ?_
  intro p e s m args below meth c s₁ B hml hv
  obtain ⟨rfl, hsz, hP, hK, hD0⟩ := hv
  have hx := B.exec
  have hb := B.bytes
  have hr := B.returns
  have hts := atoms_spec (ws := w_Machine_goOn) B.pre
  have htt : ∀ w ∈ tw_T, w.before _ s = true := fun w h => hts w (List.mem_cons_of_mem _ h)
  have hown : s.vm.findClass R_Machine = some m.cls := findClass_of_methodNamed B.named
  have hlocks := B.notSynchronized
  subst hsz
  have hD := hD0.self (sz := s.heap.size)
  generalize hAe : va_A [(h0, .inr (11, [.ref m_heap, .ref m_line, .ref m_waiting, .ref m_names, .ref m_procedures, .ref m_turtles, .ref m_deeds, .int m_phase, .int m_got])), (m_line, .inr (8, [.ref l_heap, .int l_state, .int l_error, .int l_done, .int l_made, .int l_caught, .int l_depth, .int l_calls, .ref l_kind, .ref l_list, .ref l_next, .ref l_turns, .ref l_limit, .ref l_other, .ref l_mark, .ref l_waits, .ref l_values, .ref l_locals]))] s.heap.size = A at hD ⊢
  have hA : ∀ q : Nat, s.heap.size ≤ q → A q := fun q h => by rw [← hAe]; exact Or.inr h
  have hS : va_S A s.heap s.heap [] := va_S.rf
  have hP : va_P (dC, dI) classes [(h0, .inr (11, [.ref m_heap, .ref m_line, .ref m_waiting, .ref m_names, .ref m_procedures, .ref m_turtles, .ref m_deeds, .int m_phase, .int m_got])), (m_line, .inr (8, [.ref l_heap, .int l_state, .int l_error, .int l_done, .int l_made, .int l_caught, .int l_depth, .int l_calls, .ref l_kind, .ref l_list, .ref l_next, .ref l_turns, .ref l_limit, .ref l_other, .ref l_mark, .ref l_waits, .ref l_values, .ref l_locals]))] s.heap := hP
  have hl := lv_entry ([.ref h0, .int n]) (n := 5) (Nat.le_of_ble_eq_true rfl)
  rw [lg_entry_eq]
  generalize (lg_sl ([.ref h0, .int n]) ++ List.replicate (5 - (lg_sl ([.ref h0, .int n])).length) Slot.unset).toArray = ls at hl ⊢
  have hl : lv_has ls 5 [(0, .ref h0), (1, .int n)] := hl
  refine lv_iload_n hx hb d_Machine_goOn_0 rfl (lv_at hl 1 rfl) ?_
  refine lv_sipush (v := 20000) hx hb d_Machine_goOn_1 (by decide) ?_
  have hPc := hP.sub (ws' := []) [] rfl
  have hDc := hD.sub (ws' := []) [] (by decide) rfl
  have hKc := hK.sub (tys' := []) [] rfl
  have hFc := va_free (wc := []) hD hS hA [] rfl
  refine va_calli (va_runS (As := [.int n, .int 20000]) (rest := []) ⟨hx, hb, hml, hown, hts⟩ (c_Math_min l dC dI s.heap.size n 20000) (va_cwS 2 hts (tw_GS tw_cons cw_Math_min lk_Machine_68 st_Math_min ini_Math) rfl rfl rfl (by decide +kernel) ⟨Nat.le_of_ble_eq_true rfl, Nat.le_of_ble_eq_true rfl⟩) ⟨fun a U g mk q => by obtain ⟨q0, q1, qP, qK, qD⟩ := q; exact ⟨q0, q1, qP, va_K.moved (u := U) (U := U.calling g mk a) (Vm.Alike.refl U.vm) qK, qD⟩, fun U hU hW => ⟨rfl, by rw [hU], by rw [hU]; exact hPc, va_K.moved hW.alike hKc, hDc.weaken (fun _ _ _ _ => trivial)⟩⟩ rfl rfl hl.1 rfl (lv_room (Nat.le_of_ble_eq_true rfl)) d_Machine_goOn_4 ⟨Nat.le_of_ble_eq_true rfl, Nat.le_of_ble_eq_true rfl⟩) hS (fun q _ h => hFc q h) hFc (fun r9 u9 t9 H1 locs ht hvm e9 hB hz1 hk1 hS => ?_)
  obtain ⟨hP1, hK1, hD1⟩ := hB
  rw [ht] at hP1
  obtain ⟨hP, hD⟩ := va_join (wr := [(h0, .inr (11, [.ref m_heap, .ref m_line, .ref m_waiting, .ref m_names, .ref m_procedures, .ref m_turtles, .ref m_deeds, .int m_phase, .int m_got])), (m_line, .inr (8, [.ref l_heap, .int l_state, .int l_error, .int l_done, .int l_made, .int l_caught, .int l_depth, .int l_calls, .ref l_kind, .ref l_list, .ref l_next, .ref l_turns, .ref l_limit, .ref l_other, .ref l_mark, .ref l_waits, .ref l_values, .ref l_locals]))]) (w1 := []) hP hD [] [0, 1] rfl rfl (by decide) (by decide) hk1 hFc hP1 hD1
  subst e9
  clear hP1 hD1 hK1 hvm hz1 hk1 hFc hKc hDc hPc
  subst ht
  generalize t9.heap = H at hP hS ⊢
  have hP : va_P (dC, dI) classes [(h0, .inr (11, [.ref m_heap, .ref m_line, .ref m_waiting, .ref m_names, .ref m_procedures, .ref m_turtles, .ref m_deeds, .int m_phase, .int m_got])), (m_line, .inr (8, [.ref l_heap, .int l_state, .int l_error, .int l_done, .int l_made, .int l_caught, .int l_depth, .int l_calls, .ref l_kind, .ref l_list, .ref l_next, .ref l_turns, .ref l_limit, .ref l_other, .ref l_mark, .ref l_waits, .ref l_values, .ref l_locals]))] H := hP
  have hD : va_D A [(h0, .inr (11, [.ref m_heap, .ref m_line, .ref m_waiting, .ref m_names, .ref m_procedures, .ref m_turtles, .ref m_deeds, .int m_phase, .int m_got])), (m_line, .inr (8, [.ref l_heap, .int l_state, .int l_error, .int l_done, .int l_made, .int l_caught, .int l_depth, .int l_calls, .ref l_kind, .ref l_list, .ref l_next, .ref l_turns, .ref l_limit, .ref l_other, .ref l_mark, .ref l_waits, .ref l_values, .ref l_locals]))] := hD
  refine lv_topi (fun x_1 ex_1 => ?_)
  refine lv_istore_n (lv' := [(2, .int x_1), (0, .ref h0), (1, .int n)]) hx hb d_Machine_goOn_7 rfl hl (by decide) rfl (fun ls hl => ?_)
  refine lv_iconst (v := 0) hx hb d_Machine_goOn_8 (by decide) ?_
  refine lv_istore_n (lv' := [(3, .int 0), (2, .int x_1), (0, .ref h0), (1, .int n)]) hx hb d_Machine_goOn_9 rfl hl (by decide) rfl (fun ls hl => ?_)
  refine lv_iconst (v := 0) hx hb d_Machine_goOn_10 (by decide) ?_
  refine lv_istore (lv' := [(4, .int 0), (3, .int 0), (2, .int x_1), (0, .ref h0), (1, .int n)]) hx hb d_Machine_goOn_11 hl (by decide) rfl (fun ls hl => ?_)
  refine lv_iload hx hb d_Machine_goOn_13 (lv_at hl 0 rfl) ?_
  refine lv_iload_n hx hb d_Machine_goOn_15 rfl (lv_at hl 2 rfl) ?_
  refine lv_icmp_ge (tgt := 69) hx hb d_Machine_goOn_16 (by decide) (fun c_2 => ?_) (fun c_2 => ?_)
  · refine lv_iload_n hx hb d_Machine_goOn_69 rfl (lv_at hl 1 rfl) ?_
    have hP9 := hP.sub (ws' := [(h0, .inr (11, [.ref m_heap, .ref m_line, .ref m_waiting, .ref m_names, .ref m_procedures, .ref m_turtles, .ref m_deeds, .int m_phase, .int m_got])), (m_line, .inr (8, [.ref l_heap, .int l_state, .int l_error, .int l_done, .int l_made, .int l_caught, .int l_depth, .int l_calls, .ref l_kind, .ref l_list, .ref l_next, .ref l_turns, .ref l_limit, .ref l_other, .ref l_mark, .ref l_waits, .ref l_values, .ref l_locals]))]) [0, 1] rfl
    have hD9 := hD.sub (ws' := [(h0, .inr (11, [.ref m_heap, .ref m_line, .ref m_waiting, .ref m_names, .ref m_procedures, .ref m_turtles, .ref m_deeds, .int m_phase, .int m_got])), (m_line, .inr (8, [.ref l_heap, .int l_state, .int l_error, .int l_done, .int l_made, .int l_caught, .int l_depth, .int l_calls, .ref l_kind, .ref l_list, .ref l_next, .ref l_turns, .ref l_limit, .ref l_other, .ref l_mark, .ref l_waits, .ref l_values, .ref l_locals]))]) [0, 1] (by decide) rfl
    exact W.iret (v := 0) hx hb hr (fun t9 ht hW => ⟨⟨0, (), rfl, rfl, by rw [ht]; exact hP9, va_K.moved hW.alike hK, hD9⟩, hS.F ht⟩) hS.2.2 d_Machine_goOn_70
  · refine lv_aload_n hx hb d_Machine_goOn_19 rfl (lv_at hl 3 rfl) ?_
    refine va_get (D := (dC, dI)) (ci := 11) (v := .ref m_line) (C := R_Machine) (T := F_Machine) (N := 9) hx hb htt iw_Machine hown hK hP 0 rfl rfl 1 (by decide) (htt _ lk_Machine_18) (fun _ h9 => h9) rfl d_Machine_goOn_20 ?_
    refine va_get (D := (dC, dI)) (ci := 8) (v := .int l_state) (C := R_Line) (T := F_Line) (N := 18) hx hb htt iw_Line hown hK hP 1 rfl rfl 1 (by decide) (htt _ lk_Machine_74) (fun _ h9 => h9) rfl d_Machine_goOn_23 ?_
    refine lv_iconst (v := 1) hx hb d_Machine_goOn_26 (by decide) ?_
    refine lv_icmp_ne (tgt := 69) hx hb d_Machine_goOn_27 (by decide) (fun c_3 => ?_) (fun c_3 => ?_)
    · refine lv_iload_n hx hb d_Machine_goOn_69 rfl (lv_at hl 1 rfl) ?_
      have hP9 := hP.sub (ws' := [(h0, .inr (11, [.ref m_heap, .ref m_line, .ref m_waiting, .ref m_names, .ref m_procedures, .ref m_turtles, .ref m_deeds, .int m_phase, .int m_got])), (m_line, .inr (8, [.ref l_heap, .int l_state, .int l_error, .int l_done, .int l_made, .int l_caught, .int l_depth, .int l_calls, .ref l_kind, .ref l_list, .ref l_next, .ref l_turns, .ref l_limit, .ref l_other, .ref l_mark, .ref l_waits, .ref l_values, .ref l_locals]))]) [0, 1] rfl
      have hD9 := hD.sub (ws' := [(h0, .inr (11, [.ref m_heap, .ref m_line, .ref m_waiting, .ref m_names, .ref m_procedures, .ref m_turtles, .ref m_deeds, .int m_phase, .int m_got])), (m_line, .inr (8, [.ref l_heap, .int l_state, .int l_error, .int l_done, .int l_made, .int l_caught, .int l_depth, .int l_calls, .ref l_kind, .ref l_list, .ref l_next, .ref l_turns, .ref l_limit, .ref l_other, .ref l_mark, .ref l_waits, .ref l_values, .ref l_locals]))]) [0, 1] (by decide) rfl
      exact W.iret (v := 0) hx hb hr (fun t9 ht hW => ⟨⟨0, (), rfl, rfl, by rw [ht]; exact hP9, va_K.moved hW.alike hK, hD9⟩, hS.F ht⟩) hS.2.2 d_Machine_goOn_70
    · exact absurd c_3 (hs)

set_option maxHeartbeats 4000000 in
set_option maxRecDepth 100000 in
/-- run, where no LINE is under way -/
theorem c_World_run_idle (l : Launch) (dC : Nat → ClassId) (dI : Nat → Nat → Nat) (sz : Nat) (hw : Nat) (w_heap : Nat) (w_names : Nat) (w_procedures : Nat) (w_turtles : Nat) (w_output : Nat) (w_reader : Nat) (w_line : Nat) (w_deeds : Nat) (w_machine : Nat) (w_lineList : Int32) (w_keptTop : Int32) (w_keptSeed : Int32) (w_canGoBack : Int32) (m_heap : Nat) (m_line : Nat) (m_waiting : Nat) (m_names : Nat) (m_procedures : Nat) (m_turtles : Nat) (m_deeds : Nat) (m_phase : Int32) (m_got : Int32) (l_heap : Nat) (l_state : Int32) (l_error : Int32) (l_done : Int32) (l_made : Int32) (l_caught : Int32) (l_depth : Int32) (l_calls : Int32) (l_kind : Nat) (l_list : Nat) (l_next : Nat) (l_turns : Nat) (l_limit : Nat) (l_other : Nat) (l_mark : Nat) (l_waits : Nat) (l_values : Nat) (l_locals : Nat) (n : Int32) (hs : ¬ l_state = 1) : Met l y_World_run w_World_run ({ frames := 2, cells := 0, slots := 0, locals := 45 }) (va_Pc [.ref hw, .int n] (fun U => U.heap.size = sz ∧ va_P (dC, dI) classes [(hw, .inr (0, [.ref w_heap, .ref w_names, .ref w_procedures, .ref w_turtles, .ref w_output, .ref w_reader, .ref w_line, .ref w_deeds, .ref w_machine, .int w_lineList, .int w_keptTop, .int w_keptSeed, .int w_canGoBack])), (w_machine, .inr (11, [.ref m_heap, .ref m_line, .ref m_waiting, .ref m_names, .ref m_procedures, .ref m_turtles, .ref m_deeds, .int m_phase, .int m_got])), (m_line, .inr (8, [.ref l_heap, .int l_state, .int l_error, .int l_done, .int l_made, .int l_caught, .int l_depth, .int l_calls, .ref l_kind, .ref l_list, .ref l_next, .ref l_turns, .ref l_limit, .ref l_other, .ref l_mark, .ref l_waits, .ref l_values, .ref l_locals]))] U.heap ∧ va_K (dC, dI) classes [] U ∧ va_D (fun _ => True) [(hw, .inr (0, [.ref w_heap, .ref w_names, .ref w_procedures, .ref w_turtles, .ref w_output, .ref w_reader, .ref w_line, .ref w_deeds, .ref w_machine, .int w_lineList, .int w_keptTop, .int w_keptSeed, .int w_canGoBack])), (w_machine, .inr (11, [.ref m_heap, .ref m_line, .ref m_waiting, .ref m_names, .ref m_procedures, .ref m_turtles, .ref m_deeds, .int m_phase, .int m_got])), (m_line, .inr (8, [.ref l_heap, .int l_state, .int l_error, .int l_done, .int l_made, .int l_caught, .int l_depth, .int l_calls, .ref l_kind, .ref l_list, .ref l_next, .ref l_turns, .ref l_limit, .ref l_other, .ref l_mark, .ref l_waits, .ref l_values, .ref l_locals]))])) (va_Qi (fun (r : Int32) (_ : Unit) => r = 0) (fun (_ : Unit) t => va_P (dC, dI) classes [(hw, .inr (0, [.ref w_heap, .ref w_names, .ref w_procedures, .ref w_turtles, .ref w_output, .ref w_reader, .ref w_line, .ref w_deeds, .ref w_machine, .int w_lineList, .int w_keptTop, .int w_keptSeed, .int w_canGoBack])), (w_machine, .inr (11, [.ref m_heap, .ref m_line, .ref m_waiting, .ref m_names, .ref m_procedures, .ref m_turtles, .ref m_deeds, .int m_phase, .int m_got])), (m_line, .inr (8, [.ref l_heap, .int l_state, .int l_error, .int l_done, .int l_made, .int l_caught, .int l_depth, .int l_calls, .ref l_kind, .ref l_list, .ref l_next, .ref l_turns, .ref l_limit, .ref l_other, .ref l_mark, .ref l_waits, .ref l_values, .ref l_locals]))] t.heap ∧ va_K (dC, dI) classes [] t ∧ va_D (va_A [(hw, .inr (0, [.ref w_heap, .ref w_names, .ref w_procedures, .ref w_turtles, .ref w_output, .ref w_reader, .ref w_line, .ref w_deeds, .ref w_machine, .int w_lineList, .int w_keptTop, .int w_keptSeed, .int w_canGoBack])), (w_machine, .inr (11, [.ref m_heap, .ref m_line, .ref m_waiting, .ref m_names, .ref m_procedures, .ref m_turtles, .ref m_deeds, .int m_phase, .int m_got])), (m_line, .inr (8, [.ref l_heap, .int l_state, .int l_error, .int l_done, .int l_made, .int l_caught, .int l_depth, .int l_calls, .ref l_kind, .ref l_list, .ref l_next, .ref l_turns, .ref l_limit, .ref l_other, .ref l_mark, .ref l_waits, .ref l_values, .ref l_locals]))] sz) [(hw, .inr (0, [.ref w_heap, .ref w_names, .ref w_procedures, .ref w_turtles, .ref w_output, .ref w_reader, .ref w_line, .ref w_deeds, .ref w_machine, .int w_lineList, .int w_keptTop, .int w_keptSeed, .int w_canGoBack])), (w_machine, .inr (11, [.ref m_heap, .ref m_line, .ref m_waiting, .ref m_names, .ref m_procedures, .ref m_turtles, .ref m_deeds, .int m_phase, .int m_got])), (m_line, .inr (8, [.ref l_heap, .int l_state, .int l_error, .int l_done, .int l_made, .int l_caught, .int l_depth, .int l_calls, .ref l_kind, .ref l_list, .ref l_next, .ref l_turns, .ref l_limit, .ref l_other, .ref l_mark, .ref l_waits, .ref l_values, .ref l_locals]))]) (va_A [(hw, .inr (0, [.ref w_heap, .ref w_names, .ref w_procedures, .ref w_turtles, .ref w_output, .ref w_reader, .ref w_line, .ref w_deeds, .ref w_machine, .int w_lineList, .int w_keptTop, .int w_keptSeed, .int w_canGoBack])), (w_machine, .inr (11, [.ref m_heap, .ref m_line, .ref m_waiting, .ref m_names, .ref m_procedures, .ref m_turtles, .ref m_deeds, .int m_phase, .int m_got])), (m_line, .inr (8, [.ref l_heap, .int l_state, .int l_error, .int l_done, .int l_made, .int l_caught, .int l_depth, .int l_calls, .ref l_kind, .ref l_list, .ref l_next, .ref l_turns, .ref l_limit, .ref l_other, .ref l_mark, .ref l_waits, .ref l_values, .ref l_locals]))] sz)) 0 0 (va_A [(hw, .inr (0, [.ref w_heap, .ref w_names, .ref w_procedures, .ref w_turtles, .ref w_output, .ref w_reader, .ref w_line, .ref w_deeds, .ref w_machine, .int w_lineList, .int w_keptTop, .int w_keptSeed, .int w_canGoBack])), (w_machine, .inr (11, [.ref m_heap, .ref m_line, .ref m_waiting, .ref m_names, .ref m_procedures, .ref m_turtles, .ref m_deeds, .int m_phase, .int m_got])), (m_line, .inr (8, [.ref l_heap, .int l_state, .int l_error, .int l_done, .int l_made, .int l_caught, .int l_depth, .int l_calls, .ref l_kind, .ref l_list, .ref l_next, .ref l_turns, .ref l_limit, .ref l_other, .ref l_mark, .ref l_waits, .ref l_values, .ref l_locals]))] sz) := by
  refine Met.ofW (cc := b_World_run) (maxL := 2) (ret := (some .int)) (by decide) rfl ?_
  intro p e s m args below meth c s₁ B hml hv
  obtain ⟨rfl, hsz, hP, hK, hD0⟩ := hv
  have hx := B.exec
  have hb := B.bytes
  have hr := B.returns
  have hts := atoms_spec (ws := w_World_run) B.pre
  have htt : ∀ w ∈ tw_T, w.before _ s = true := fun w h => hts w (List.mem_cons_of_mem _ h)
  have hown : s.vm.findClass R_World = some m.cls := findClass_of_methodNamed B.named
  have hlocks := B.notSynchronized
  subst hsz
  have hD := hD0.self (sz := s.heap.size)
  generalize hAe : va_A [(hw, .inr (0, [.ref w_heap, .ref w_names, .ref w_procedures, .ref w_turtles, .ref w_output, .ref w_reader, .ref w_line, .ref w_deeds, .ref w_machine, .int w_lineList, .int w_keptTop, .int w_keptSeed, .int w_canGoBack])), (w_machine, .inr (11, [.ref m_heap, .ref m_line, .ref m_waiting, .ref m_names, .ref m_procedures, .ref m_turtles, .ref m_deeds, .int m_phase, .int m_got])), (m_line, .inr (8, [.ref l_heap, .int l_state, .int l_error, .int l_done, .int l_made, .int l_caught, .int l_depth, .int l_calls, .ref l_kind, .ref l_list, .ref l_next, .ref l_turns, .ref l_limit, .ref l_other, .ref l_mark, .ref l_waits, .ref l_values, .ref l_locals]))] s.heap.size = A at hD ⊢
  have hA : ∀ q : Nat, s.heap.size ≤ q → A q := fun q h => by rw [← hAe]; exact Or.inr h
  have hS : va_S A s.heap s.heap [] := va_S.rf
  have hP : va_P (dC, dI) classes [(hw, .inr (0, [.ref w_heap, .ref w_names, .ref w_procedures, .ref w_turtles, .ref w_output, .ref w_reader, .ref w_line, .ref w_deeds, .ref w_machine, .int w_lineList, .int w_keptTop, .int w_keptSeed, .int w_canGoBack])), (w_machine, .inr (11, [.ref m_heap, .ref m_line, .ref m_waiting, .ref m_names, .ref m_procedures, .ref m_turtles, .ref m_deeds, .int m_phase, .int m_got])), (m_line, .inr (8, [.ref l_heap, .int l_state, .int l_error, .int l_done, .int l_made, .int l_caught, .int l_depth, .int l_calls, .ref l_kind, .ref l_list, .ref l_next, .ref l_turns, .ref l_limit, .ref l_other, .ref l_mark, .ref l_waits, .ref l_values, .ref l_locals]))] s.heap := hP
  have hl := lv_entry ([.ref hw, .int n]) (n := 2) (Nat.le_of_ble_eq_true rfl)
  rw [lg_entry_eq]
  generalize (lg_sl ([.ref hw, .int n]) ++ List.replicate (2 - (lg_sl ([.ref hw, .int n])).length) Slot.unset).toArray = ls at hl ⊢
  have hl : lv_has ls 2 [(0, .ref hw), (1, .int n)] := hl
  refine lv_aload_n hx hb d_World_run_0 rfl (lv_at hl 0 rfl) ?_
  refine va_get (D := (dC, dI)) (ci := 0) (v := .ref w_machine) (C := R_World) (T := F_World) (N := 13) hx hb htt iw_World hown hK hP 0 rfl rfl 8 (by decide) (htt _ lk_World_84) (fun _ h9 => h9) rfl d_World_run_1 ?_
  refine lv_iload_n hx hb d_World_run_4 rfl (lv_at hl 1 rfl) ?_
  have hPc := hP.sub (ws' := [(w_machine, .inr (11, [.ref m_heap, .ref m_line, .ref m_waiting, .ref m_names, .ref m_procedures, .ref m_turtles, .ref m_deeds, .int m_phase, .int m_got])), (m_line, .inr (8, [.ref l_heap, .int l_state, .int l_error, .int l_done, .int l_made, .int l_caught, .int l_depth, .int l_calls, .ref l_kind, .ref l_list, .ref l_next, .ref l_turns, .ref l_limit, .ref l_other, .ref l_mark, .ref l_waits, .ref l_values, .ref l_locals]))]) [1, 2] rfl
  have hDc := hD.sub (ws' := [(w_machine, .inr (11, [.ref m_heap, .ref m_line, .ref m_waiting, .ref m_names, .ref m_procedures, .ref m_turtles, .ref m_deeds, .int m_phase, .int m_got])), (m_line, .inr (8, [.ref l_heap, .int l_state, .int l_error, .int l_done, .int l_made, .int l_caught, .int l_depth, .int l_calls, .ref l_kind, .ref l_list, .ref l_next, .ref l_turns, .ref l_limit, .ref l_other, .ref l_mark, .ref l_waits, .ref l_values, .ref l_locals]))]) [1, 2] (by decide) rfl
  have hKc := hK.sub (tys' := []) [] rfl
  have hFc := va_free (wc := [(w_machine, .inr (11, [.ref m_heap, .ref m_line, .ref m_waiting, .ref m_names, .ref m_procedures, .ref m_turtles, .ref m_deeds, .int m_phase, .int m_got])), (m_line, .inr (8, [.ref l_heap, .int l_state, .int l_error, .int l_done, .int l_made, .int l_caught, .int l_depth, .int l_calls, .ref l_kind, .ref l_list, .ref l_next, .ref l_turns, .ref l_limit, .ref l_other, .ref l_mark, .ref l_waits, .ref l_values, .ref l_locals]))]) hD hS hA [1, 2] rfl
  refine va_calli (va_runV (As := [.int n]) (rest := []) ⟨hx, hb, hml, hown, hts⟩ (c_Machine_goOn_idle l dC dI s.heap.size w_machine m_heap m_line m_waiting m_names m_procedures m_turtles m_deeds m_phase m_got l_heap l_state l_error l_done l_made l_caught l_depth l_calls l_kind l_list l_next l_turns l_limit l_other l_mark l_waits l_values l_locals n (by assumption)) (cwV 1 hts (tw_GV tw_cons cw_Machine_goOn lk_World_138 in_Machine_goOn sel_Machine_goOn ini_Machine) rfl rfl rfl (by decide +kernel) ⟨Nat.le_of_ble_eq_true rfl, Nat.le_of_ble_eq_true rfl⟩) ⟨fun a U g mk q => by obtain ⟨q0, q1, qP, qK, qD⟩ := q; exact ⟨q0, q1, qP, va_K.moved (u := U) (U := U.calling g mk a) (Vm.Alike.refl U.vm) qK, qD⟩, va_recv hKc hPc (ci := 11) (q0 := 0) rfl rfl, fun U hU hW => ⟨rfl, by rw [hU], by rw [hU]; exact hPc, va_K.moved hW.alike hKc, hDc.weaken (fun _ _ _ _ => trivial)⟩⟩ rfl rfl hl.1 rfl (lv_room (Nat.le_of_ble_eq_true rfl)) d_World_run_5 ⟨Nat.le_of_ble_eq_true rfl, Nat.le_of_ble_eq_true rfl⟩) hS (fun q _ h => hFc q h) hFc (fun r9 u9 t9 H1 locs ht hvm e9 hB hz1 hk1 hS => ?_)
  obtain ⟨hP1, hK1, hD1⟩ := hB
  rw [ht] at hP1
  obtain ⟨hP, hD⟩ := va_join (wr := [(hw, .inr (0, [.ref w_heap, .ref w_names, .ref w_procedures, .ref w_turtles, .ref w_output, .ref w_reader, .ref w_line, .ref w_deeds, .ref w_machine, .int w_lineList, .int w_keptTop, .int w_keptSeed, .int w_canGoBack]))]) (w1 := [(w_machine, .inr (11, [.ref m_heap, .ref m_line, .ref m_waiting, .ref m_names, .ref m_procedures, .ref m_turtles, .ref m_deeds, .int m_phase, .int m_got])), (m_line, .inr (8, [.ref l_heap, .int l_state, .int l_error, .int l_done, .int l_made, .int l_caught, .int l_depth, .int l_calls, .ref l_kind, .ref l_list, .ref l_next, .ref l_turns, .ref l_limit, .ref l_other, .ref l_mark, .ref l_waits, .ref l_values, .ref l_locals]))]) hP hD [1, 2] [0] rfl rfl (by decide) (by decide) hk1 hFc hP1 hD1
  subst e9
  clear hP1 hD1 hK1 hvm hz1 hk1 hFc hKc hDc hPc
  subst ht
  generalize t9.heap = H at hP hS ⊢
  have hP : va_P (dC, dI) classes [(hw, .inr (0, [.ref w_heap, .ref w_names, .ref w_procedures, .ref w_turtles, .ref w_output, .ref w_reader, .ref w_line, .ref w_deeds, .ref w_machine, .int w_lineList, .int w_keptTop, .int w_keptSeed, .int w_canGoBack])), (w_machine, .inr (11, [.ref m_heap, .ref m_line, .ref m_waiting, .ref m_names, .ref m_procedures, .ref m_turtles, .ref m_deeds, .int m_phase, .int m_got])), (m_line, .inr (8, [.ref l_heap, .int l_state, .int l_error, .int l_done, .int l_made, .int l_caught, .int l_depth, .int l_calls, .ref l_kind, .ref l_list, .ref l_next, .ref l_turns, .ref l_limit, .ref l_other, .ref l_mark, .ref l_waits, .ref l_values, .ref l_locals]))] H := hP
  have hD : va_D A [(hw, .inr (0, [.ref w_heap, .ref w_names, .ref w_procedures, .ref w_turtles, .ref w_output, .ref w_reader, .ref w_line, .ref w_deeds, .ref w_machine, .int w_lineList, .int w_keptTop, .int w_keptSeed, .int w_canGoBack])), (w_machine, .inr (11, [.ref m_heap, .ref m_line, .ref m_waiting, .ref m_names, .ref m_procedures, .ref m_turtles, .ref m_deeds, .int m_phase, .int m_got])), (m_line, .inr (8, [.ref l_heap, .int l_state, .int l_error, .int l_done, .int l_made, .int l_caught, .int l_depth, .int l_calls, .ref l_kind, .ref l_list, .ref l_next, .ref l_turns, .ref l_limit, .ref l_other, .ref l_mark, .ref l_waits, .ref l_values, .ref l_locals]))] := hD
  have hP9 := hP.sub (ws' := [(hw, .inr (0, [.ref w_heap, .ref w_names, .ref w_procedures, .ref w_turtles, .ref w_output, .ref w_reader, .ref w_line, .ref w_deeds, .ref w_machine, .int w_lineList, .int w_keptTop, .int w_keptSeed, .int w_canGoBack])), (w_machine, .inr (11, [.ref m_heap, .ref m_line, .ref m_waiting, .ref m_names, .ref m_procedures, .ref m_turtles, .ref m_deeds, .int m_phase, .int m_got])), (m_line, .inr (8, [.ref l_heap, .int l_state, .int l_error, .int l_done, .int l_made, .int l_caught, .int l_depth, .int l_calls, .ref l_kind, .ref l_list, .ref l_next, .ref l_turns, .ref l_limit, .ref l_other, .ref l_mark, .ref l_waits, .ref l_values, .ref l_locals]))]) [0, 1, 2] rfl
  have hD9 := hD.sub (ws' := [(hw, .inr (0, [.ref w_heap, .ref w_names, .ref w_procedures, .ref w_turtles, .ref w_output, .ref w_reader, .ref w_line, .ref w_deeds, .ref w_machine, .int w_lineList, .int w_keptTop, .int w_keptSeed, .int w_canGoBack])), (w_machine, .inr (11, [.ref m_heap, .ref m_line, .ref m_waiting, .ref m_names, .ref m_procedures, .ref m_turtles, .ref m_deeds, .int m_phase, .int m_got])), (m_line, .inr (8, [.ref l_heap, .int l_state, .int l_error, .int l_done, .int l_made, .int l_caught, .int l_depth, .int l_calls, .ref l_kind, .ref l_list, .ref l_next, .ref l_turns, .ref l_limit, .ref l_other, .ref l_mark, .ref l_waits, .ref l_values, .ref l_locals]))]) [0, 1, 2] (by decide) rfl
  exact W.iret (v := 0) hx hb hr (fun t9 ht hW => ⟨⟨0, (), rfl, rfl, by rw [ht]; exact hP9, va_K.moved hW.alike hK, hD9⟩, hS.F ht⟩) hS.2.2 d_World_run_8

set_option maxHeartbeats 4000000 in
set_option maxRecDepth 100000 in
/-- go, where it cannot -/
theorem c_World_go_no (l : Launch) (dC : Nat → ClassId) (dI : Nat → Nat → Nat) (sz : Nat) (hw : Nat) (w_heap : Nat) (w_names : Nat) (w_procedures : Nat) (w_turtles : Nat) (w_output : Nat) (w_reader : Nat) (w_line : Nat) (w_deeds : Nat) (w_machine : Nat) (w_lineList : Int32) (w_keptTop : Int32) (w_keptSeed : Int32) (w_canGoBack : Int32) (l_heap : Nat) (l_state : Int32) (l_error : Int32) (l_done : Int32) (l_made : Int32) (l_caught : Int32) (l_depth : Int32) (l_calls : Int32) (l_kind : Nat) (l_list : Nat) (l_next : Nat) (l_turns : Nat) (l_limit : Nat) (l_other : Nat) (l_mark : Nat) (l_waits : Nat) (l_values : Nat) (l_locals : Nat) (n : Int32) (hno : w_canGoBack = 0 ∨ n < 0 ∨ ¬ n ≤ l_done) : Met l y_World_go w_World_go ({ frames := 0, cells := 0, slots := 0, locals := 0 }) (va_Pc [.ref hw, .int n] (fun U => U.heap.size = sz ∧ va_P (dC, dI) classes [(hw, .inr (0, [.ref w_heap, .ref w_names, .ref w_procedures, .ref w_turtles, .ref w_output, .ref w_reader, .ref w_line, .ref w_deeds, .ref w_machine, .int w_lineList, .int w_keptTop, .int w_keptSeed, .int w_canGoBack])), (w_line, .inr (8, [.ref l_heap, .int l_state, .int l_error, .int l_done, .int l_made, .int l_caught, .int l_depth, .int l_calls, .ref l_kind, .ref l_list, .ref l_next, .ref l_turns, .ref l_limit, .ref l_other, .ref l_mark, .ref l_waits, .ref l_values, .ref l_locals]))] U.heap ∧ va_K (dC, dI) classes [] U ∧ va_D (fun _ => True) [(hw, .inr (0, [.ref w_heap, .ref w_names, .ref w_procedures, .ref w_turtles, .ref w_output, .ref w_reader, .ref w_line, .ref w_deeds, .ref w_machine, .int w_lineList, .int w_keptTop, .int w_keptSeed, .int w_canGoBack])), (w_line, .inr (8, [.ref l_heap, .int l_state, .int l_error, .int l_done, .int l_made, .int l_caught, .int l_depth, .int l_calls, .ref l_kind, .ref l_list, .ref l_next, .ref l_turns, .ref l_limit, .ref l_other, .ref l_mark, .ref l_waits, .ref l_values, .ref l_locals]))])) (va_Qi (fun (r : Int32) (_ : Unit) => r = 0) (fun (_ : Unit) t => va_P (dC, dI) classes [(hw, .inr (0, [.ref w_heap, .ref w_names, .ref w_procedures, .ref w_turtles, .ref w_output, .ref w_reader, .ref w_line, .ref w_deeds, .ref w_machine, .int w_lineList, .int w_keptTop, .int w_keptSeed, .int w_canGoBack])), (w_line, .inr (8, [.ref l_heap, .int l_state, .int l_error, .int l_done, .int l_made, .int l_caught, .int l_depth, .int l_calls, .ref l_kind, .ref l_list, .ref l_next, .ref l_turns, .ref l_limit, .ref l_other, .ref l_mark, .ref l_waits, .ref l_values, .ref l_locals]))] t.heap ∧ va_K (dC, dI) classes [] t ∧ va_D (va_A [(hw, .inr (0, [.ref w_heap, .ref w_names, .ref w_procedures, .ref w_turtles, .ref w_output, .ref w_reader, .ref w_line, .ref w_deeds, .ref w_machine, .int w_lineList, .int w_keptTop, .int w_keptSeed, .int w_canGoBack])), (w_line, .inr (8, [.ref l_heap, .int l_state, .int l_error, .int l_done, .int l_made, .int l_caught, .int l_depth, .int l_calls, .ref l_kind, .ref l_list, .ref l_next, .ref l_turns, .ref l_limit, .ref l_other, .ref l_mark, .ref l_waits, .ref l_values, .ref l_locals]))] sz) [(hw, .inr (0, [.ref w_heap, .ref w_names, .ref w_procedures, .ref w_turtles, .ref w_output, .ref w_reader, .ref w_line, .ref w_deeds, .ref w_machine, .int w_lineList, .int w_keptTop, .int w_keptSeed, .int w_canGoBack])), (w_line, .inr (8, [.ref l_heap, .int l_state, .int l_error, .int l_done, .int l_made, .int l_caught, .int l_depth, .int l_calls, .ref l_kind, .ref l_list, .ref l_next, .ref l_turns, .ref l_limit, .ref l_other, .ref l_mark, .ref l_waits, .ref l_values, .ref l_locals]))]) (va_A [(hw, .inr (0, [.ref w_heap, .ref w_names, .ref w_procedures, .ref w_turtles, .ref w_output, .ref w_reader, .ref w_line, .ref w_deeds, .ref w_machine, .int w_lineList, .int w_keptTop, .int w_keptSeed, .int w_canGoBack])), (w_line, .inr (8, [.ref l_heap, .int l_state, .int l_error, .int l_done, .int l_made, .int l_caught, .int l_depth, .int l_calls, .ref l_kind, .ref l_list, .ref l_next, .ref l_turns, .ref l_limit, .ref l_other, .ref l_mark, .ref l_waits, .ref l_values, .ref l_locals]))] sz)) 0 0 (va_A [(hw, .inr (0, [.ref w_heap, .ref w_names, .ref w_procedures, .ref w_turtles, .ref w_output, .ref w_reader, .ref w_line, .ref w_deeds, .ref w_machine, .int w_lineList, .int w_keptTop, .int w_keptSeed, .int w_canGoBack])), (w_line, .inr (8, [.ref l_heap, .int l_state, .int l_error, .int l_done, .int l_made, .int l_caught, .int l_depth, .int l_calls, .ref l_kind, .ref l_list, .ref l_next, .ref l_turns, .ref l_limit, .ref l_other, .ref l_mark, .ref l_waits, .ref l_values, .ref l_locals]))] sz) := by
  refine Met.ofW (cc := b_World_go) (maxL := 2) (ret := (some .boolean)) (by decide) rfl ?_
  intro p e s m args below meth c s₁ B hml hv
  obtain ⟨rfl, hsz, hP, hK, hD0⟩ := hv
  have hx := B.exec
  have hb := B.bytes
  have hr := B.returns
  have hts := atoms_spec (ws := w_World_go) B.pre
  have htt : ∀ w ∈ tw_T, w.before _ s = true := fun w h => hts w (List.mem_cons_of_mem _ h)
  have hown : s.vm.findClass R_World = some m.cls := findClass_of_methodNamed B.named
  have hlocks := B.notSynchronized
  subst hsz
  have hD := hD0.self (sz := s.heap.size)
  generalize hAe : va_A [(hw, .inr (0, [.ref w_heap, .ref w_names, .ref w_procedures, .ref w_turtles, .ref w_output, .ref w_reader, .ref w_line, .ref w_deeds, .ref w_machine, .int w_lineList, .int w_keptTop, .int w_keptSeed, .int w_canGoBack])), (w_line, .inr (8, [.ref l_heap, .int l_state, .int l_error, .int l_done, .int l_made, .int l_caught, .int l_depth, .int l_calls, .ref l_kind, .ref l_list, .ref l_next, .ref l_turns, .ref l_limit, .ref l_other, .ref l_mark, .ref l_waits, .ref l_values, .ref l_locals]))] s.heap.size = A at hD ⊢
  have hA : ∀ q : Nat, s.heap.size ≤ q → A q := fun q h => by rw [← hAe]; exact Or.inr h
  have hS : va_S A s.heap s.heap [] := va_S.rf
  have hP : va_P (dC, dI) classes [(hw, .inr (0, [.ref w_heap, .ref w_names, .ref w_procedures, .ref w_turtles, .ref w_output, .ref w_reader, .ref w_line, .ref w_deeds, .ref w_machine, .int w_lineList, .int w_keptTop, .int w_keptSeed, .int w_canGoBack])), (w_line, .inr (8, [.ref l_heap, .int l_state, .int l_error, .int l_done, .int l_made, .int l_caught, .int l_depth, .int l_calls, .ref l_kind, .ref l_list, .ref l_next, .ref l_turns, .ref l_limit, .ref l_other, .ref l_mark, .ref l_waits, .ref l_values, .ref l_locals]))] s.heap := hP
  have hl := lv_entry ([.ref hw, .int n]) (n := 2) (Nat.le_of_ble_eq_true rfl)
  rw [lg_entry_eq]
  generalize (lg_sl ([.ref hw, .int n]) ++ List.replicate (2 - (lg_sl ([.ref hw, .int n])).length) Slot.unset).toArray = ls at hl ⊢
  have hl : lv_has ls 2 [(0, .ref hw), (1, .int n)] := hl
  refine lv_aload_n hx hb d_World_go_0 rfl (lv_at hl 0 rfl) ?_
  refine va_get (D := (dC, dI)) (ci := 0) (v := .int w_canGoBack) (C := R_World) (T := F_World) (N := 13) hx hb htt iw_World hown hK hP 0 rfl rfl 12 (by decide) (htt _ lk_World_115) (fun _ h9 => h9) rfl d_World_go_1 ?_
  refine lv_if_eq (tgt := 22) hx hb d_World_go_4 (by decide) (fun c_1 => ?_) (fun c_1 => ?_)
  · refine lv_iconst (v := 0) hx hb d_World_go_22 (by decide) ?_
    have hP9 := hP.sub (ws' := [(hw, .inr (0, [.ref w_heap, .ref w_names, .ref w_procedures, .ref w_turtles, .ref w_output, .ref w_reader, .ref w_line, .ref w_deeds, .ref w_machine, .int w_lineList, .int w_keptTop, .int w_keptSeed, .int w_canGoBack])), (w_line, .inr (8, [.ref l_heap, .int l_state, .int l_error, .int l_done, .int l_made, .int l_caught, .int l_depth, .int l_calls, .ref l_kind, .ref l_list, .ref l_next, .ref l_turns, .ref l_limit, .ref l_other, .ref l_mark, .ref l_waits, .ref l_values, .ref l_locals]))]) [0, 1] rfl
    have hD9 := hD.sub (ws' := [(hw, .inr (0, [.ref w_heap, .ref w_names, .ref w_procedures, .ref w_turtles, .ref w_output, .ref w_reader, .ref w_line, .ref w_deeds, .ref w_machine, .int w_lineList, .int w_keptTop, .int w_keptSeed, .int w_canGoBack])), (w_line, .inr (8, [.ref l_heap, .int l_state, .int l_error, .int l_done, .int l_made, .int l_caught, .int l_depth, .int l_calls, .ref l_kind, .ref l_list, .ref l_next, .ref l_turns, .ref l_limit, .ref l_other, .ref l_mark, .ref l_waits, .ref l_values, .ref l_locals]))]) [0, 1] (by decide) rfl
    exact W.zret (v := 0) hx hb hr (by decide) (fun t9 ht hW => ⟨⟨0, (), rfl, rfl, by rw [ht]; exact hP9, va_K.moved hW.alike hK, hD9⟩, hS.F ht⟩) hS.2.2 d_World_go_23
  · refine lv_iload_n hx hb d_World_go_7 rfl (lv_at hl 1 rfl) ?_
    refine lv_if_lt (tgt := 22) hx hb d_World_go_8 (by decide) (fun c_2 => ?_) (fun c_2 => ?_)
    · refine lv_iconst (v := 0) hx hb d_World_go_22 (by decide) ?_
      have hP9 := hP.sub (ws' := [(hw, .inr (0, [.ref w_heap, .ref w_names, .ref w_procedures, .ref w_turtles, .ref w_output, .ref w_reader, .ref w_line, .ref w_deeds, .ref w_machine, .int w_lineList, .int w_keptTop, .int w_keptSeed, .int w_canGoBack])), (w_line, .inr (8, [.ref l_heap, .int l_state, .int l_error, .int l_done, .int l_made, .int l_caught, .int l_depth, .int l_calls, .ref l_kind, .ref l_list, .ref l_next, .ref l_turns, .ref l_limit, .ref l_other, .ref l_mark, .ref l_waits, .ref l_values, .ref l_locals]))]) [0, 1] rfl
      have hD9 := hD.sub (ws' := [(hw, .inr (0, [.ref w_heap, .ref w_names, .ref w_procedures, .ref w_turtles, .ref w_output, .ref w_reader, .ref w_line, .ref w_deeds, .ref w_machine, .int w_lineList, .int w_keptTop, .int w_keptSeed, .int w_canGoBack])), (w_line, .inr (8, [.ref l_heap, .int l_state, .int l_error, .int l_done, .int l_made, .int l_caught, .int l_depth, .int l_calls, .ref l_kind, .ref l_list, .ref l_next, .ref l_turns, .ref l_limit, .ref l_other, .ref l_mark, .ref l_waits, .ref l_values, .ref l_locals]))]) [0, 1] (by decide) rfl
      exact W.zret (v := 0) hx hb hr (by decide) (fun t9 ht hW => ⟨⟨0, (), rfl, rfl, by rw [ht]; exact hP9, va_K.moved hW.alike hK, hD9⟩, hS.F ht⟩) hS.2.2 d_World_go_23
    · refine lv_iload_n hx hb d_World_go_11 rfl (lv_at hl 1 rfl) ?_
      refine lv_aload_n hx hb d_World_go_12 rfl (lv_at hl 0 rfl) ?_
      refine va_get (D := (dC, dI)) (ci := 0) (v := .ref w_line) (C := R_World) (T := F_World) (N := 13) hx hb htt iw_World hown hK hP 0 rfl rfl 6 (by decide) (htt _ lk_World_63) (fun _ h9 => h9) rfl d_World_go_13 ?_
      refine va_get (D := (dC, dI)) (ci := 8) (v := .int l_done) (C := R_Line) (T := F_Line) (N := 18) hx hb htt iw_Line hown hK hP 1 rfl rfl 3 (by decide) (htt _ lk_World_141) (fun _ h9 => h9) rfl d_World_go_16 ?_
      refine lv_icmp_le (tgt := 24) hx hb d_World_go_19 (by decide) (fun c_3 => ?_) (fun c_3 => ?_)
      · exact absurd c_3 (fun h9 => hno.elim c_1 (fun h8 => h8.elim c_2 (fun h7 => h7 h9)))
      · refine lv_iconst (v := 0) hx hb d_World_go_22 (by decide) ?_
        have hP9 := hP.sub (ws' := [(hw, .inr (0, [.ref w_heap, .ref w_names, .ref w_procedures, .ref w_turtles, .ref w_output, .ref w_reader, .ref w_line, .ref w_deeds, .ref w_machine, .int w_lineList, .int w_keptTop, .int w_keptSeed, .int w_canGoBack])), (w_line, .inr (8, [.ref l_heap, .int l_state, .int l_error, .int l_done, .int l_made, .int l_caught, .int l_depth, .int l_calls, .ref l_kind, .ref l_list, .ref l_next, .ref l_turns, .ref l_limit, .ref l_other, .ref l_mark, .ref l_waits, .ref l_values, .ref l_locals]))]) [0, 1] rfl
        have hD9 := hD.sub (ws' := [(hw, .inr (0, [.ref w_heap, .ref w_names, .ref w_procedures, .ref w_turtles, .ref w_output, .ref w_reader, .ref w_line, .ref w_deeds, .ref w_machine, .int w_lineList, .int w_keptTop, .int w_keptSeed, .int w_canGoBack])), (w_line, .inr (8, [.ref l_heap, .int l_state, .int l_error, .int l_done, .int l_made, .int l_caught, .int l_depth, .int l_calls, .ref l_kind, .ref l_list, .ref l_next, .ref l_turns, .ref l_limit, .ref l_other, .ref l_mark, .ref l_waits, .ref l_values, .ref l_locals]))]) [0, 1] (by decide) rfl
        exact W.zret (v := 0) hx hb hr (by decide) (fun t9 ht hW => ⟨⟨0, (), rfl, rfl, by rw [ht]; exact hP9, va_K.moved hW.alike hK, hD9⟩, hS.F ht⟩) hS.2.2 d_World_go_23

set_option maxHeartbeats 4000000 in
set_option maxRecDepth 100000 in
/-- stop, where no LINE is under way -/
theorem c_World_stop_idle (l : Launch) (dC : Nat → ClassId) (dI : Nat → Nat → Nat) (sz : Nat) (hw : Nat) (w_heap : Nat) (w_names : Nat) (w_procedures : Nat) (w_turtles : Nat) (w_output : Nat) (w_reader : Nat) (w_line : Nat) (w_deeds : Nat) (w_machine : Nat) (w_lineList : Int32) (w_keptTop : Int32) (w_keptSeed : Int32) (w_canGoBack : Int32) (l_heap : Nat) (l_state : Int32) (l_error : Int32) (l_done : Int32) (l_made : Int32) (l_caught : Int32) (l_depth : Int32) (l_calls : Int32) (l_kind : Nat) (l_list : Nat) (l_next : Nat) (l_turns : Nat) (l_limit : Nat) (l_other : Nat) (l_mark : Nat) (l_waits : Nat) (l_values : Nat) (l_locals : Nat) (hs : ¬ l_state = 1) : Met l y_World_stop w_World_stop ({ frames := 0, cells := 0, slots := 0, locals := 0 }) (va_Pc [.ref hw] (fun U => U.heap.size = sz ∧ va_P (dC, dI) classes [(hw, .inr (0, [.ref w_heap, .ref w_names, .ref w_procedures, .ref w_turtles, .ref w_output, .ref w_reader, .ref w_line, .ref w_deeds, .ref w_machine, .int w_lineList, .int w_keptTop, .int w_keptSeed, .int w_canGoBack])), (w_line, .inr (8, [.ref l_heap, .int l_state, .int l_error, .int l_done, .int l_made, .int l_caught, .int l_depth, .int l_calls, .ref l_kind, .ref l_list, .ref l_next, .ref l_turns, .ref l_limit, .ref l_other, .ref l_mark, .ref l_waits, .ref l_values, .ref l_locals]))] U.heap ∧ va_K (dC, dI) classes [] U ∧ va_D (fun _ => True) [(hw, .inr (0, [.ref w_heap, .ref w_names, .ref w_procedures, .ref w_turtles, .ref w_output, .ref w_reader, .ref w_line, .ref w_deeds, .ref w_machine, .int w_lineList, .int w_keptTop, .int w_keptSeed, .int w_canGoBack])), (w_line, .inr (8, [.ref l_heap, .int l_state, .int l_error, .int l_done, .int l_made, .int l_caught, .int l_depth, .int l_calls, .ref l_kind, .ref l_list, .ref l_next, .ref l_turns, .ref l_limit, .ref l_other, .ref l_mark, .ref l_waits, .ref l_values, .ref l_locals]))])) (va_Qi (fun (r : Int32) (_ : Unit) => r = 0) (fun (_ : Unit) t => va_P (dC, dI) classes [(hw, .inr (0, [.ref w_heap, .ref w_names, .ref w_procedures, .ref w_turtles, .ref w_output, .ref w_reader, .ref w_line, .ref w_deeds, .ref w_machine, .int w_lineList, .int w_keptTop, .int w_keptSeed, .int w_canGoBack])), (w_line, .inr (8, [.ref l_heap, .int l_state, .int l_error, .int l_done, .int l_made, .int l_caught, .int l_depth, .int l_calls, .ref l_kind, .ref l_list, .ref l_next, .ref l_turns, .ref l_limit, .ref l_other, .ref l_mark, .ref l_waits, .ref l_values, .ref l_locals]))] t.heap ∧ va_K (dC, dI) classes [] t ∧ va_D (va_A [(hw, .inr (0, [.ref w_heap, .ref w_names, .ref w_procedures, .ref w_turtles, .ref w_output, .ref w_reader, .ref w_line, .ref w_deeds, .ref w_machine, .int w_lineList, .int w_keptTop, .int w_keptSeed, .int w_canGoBack])), (w_line, .inr (8, [.ref l_heap, .int l_state, .int l_error, .int l_done, .int l_made, .int l_caught, .int l_depth, .int l_calls, .ref l_kind, .ref l_list, .ref l_next, .ref l_turns, .ref l_limit, .ref l_other, .ref l_mark, .ref l_waits, .ref l_values, .ref l_locals]))] sz) [(hw, .inr (0, [.ref w_heap, .ref w_names, .ref w_procedures, .ref w_turtles, .ref w_output, .ref w_reader, .ref w_line, .ref w_deeds, .ref w_machine, .int w_lineList, .int w_keptTop, .int w_keptSeed, .int w_canGoBack])), (w_line, .inr (8, [.ref l_heap, .int l_state, .int l_error, .int l_done, .int l_made, .int l_caught, .int l_depth, .int l_calls, .ref l_kind, .ref l_list, .ref l_next, .ref l_turns, .ref l_limit, .ref l_other, .ref l_mark, .ref l_waits, .ref l_values, .ref l_locals]))]) (va_A [(hw, .inr (0, [.ref w_heap, .ref w_names, .ref w_procedures, .ref w_turtles, .ref w_output, .ref w_reader, .ref w_line, .ref w_deeds, .ref w_machine, .int w_lineList, .int w_keptTop, .int w_keptSeed, .int w_canGoBack])), (w_line, .inr (8, [.ref l_heap, .int l_state, .int l_error, .int l_done, .int l_made, .int l_caught, .int l_depth, .int l_calls, .ref l_kind, .ref l_list, .ref l_next, .ref l_turns, .ref l_limit, .ref l_other, .ref l_mark, .ref l_waits, .ref l_values, .ref l_locals]))] sz)) 0 0 (va_A [(hw, .inr (0, [.ref w_heap, .ref w_names, .ref w_procedures, .ref w_turtles, .ref w_output, .ref w_reader, .ref w_line, .ref w_deeds, .ref w_machine, .int w_lineList, .int w_keptTop, .int w_keptSeed, .int w_canGoBack])), (w_line, .inr (8, [.ref l_heap, .int l_state, .int l_error, .int l_done, .int l_made, .int l_caught, .int l_depth, .int l_calls, .ref l_kind, .ref l_list, .ref l_next, .ref l_turns, .ref l_limit, .ref l_other, .ref l_mark, .ref l_waits, .ref l_values, .ref l_locals]))] sz) := by
  refine Met.ofW (cc := b_World_stop) (maxL := 1) (ret := (some .boolean)) (by decide) rfl ?_
  intro p e s m args below meth c s₁ B hml hv
  obtain ⟨rfl, hsz, hP, hK, hD0⟩ := hv
  have hx := B.exec
  have hb := B.bytes
  have hr := B.returns
  have hts := atoms_spec (ws := w_World_stop) B.pre
  have htt : ∀ w ∈ tw_T, w.before _ s = true := fun w h => hts w (List.mem_cons_of_mem _ h)
  have hown : s.vm.findClass R_World = some m.cls := findClass_of_methodNamed B.named
  have hlocks := B.notSynchronized
  subst hsz
  have hD := hD0.self (sz := s.heap.size)
  generalize hAe : va_A [(hw, .inr (0, [.ref w_heap, .ref w_names, .ref w_procedures, .ref w_turtles, .ref w_output, .ref w_reader, .ref w_line, .ref w_deeds, .ref w_machine, .int w_lineList, .int w_keptTop, .int w_keptSeed, .int w_canGoBack])), (w_line, .inr (8, [.ref l_heap, .int l_state, .int l_error, .int l_done, .int l_made, .int l_caught, .int l_depth, .int l_calls, .ref l_kind, .ref l_list, .ref l_next, .ref l_turns, .ref l_limit, .ref l_other, .ref l_mark, .ref l_waits, .ref l_values, .ref l_locals]))] s.heap.size = A at hD ⊢
  have hA : ∀ q : Nat, s.heap.size ≤ q → A q := fun q h => by rw [← hAe]; exact Or.inr h
  have hS : va_S A s.heap s.heap [] := va_S.rf
  have hP : va_P (dC, dI) classes [(hw, .inr (0, [.ref w_heap, .ref w_names, .ref w_procedures, .ref w_turtles, .ref w_output, .ref w_reader, .ref w_line, .ref w_deeds, .ref w_machine, .int w_lineList, .int w_keptTop, .int w_keptSeed, .int w_canGoBack])), (w_line, .inr (8, [.ref l_heap, .int l_state, .int l_error, .int l_done, .int l_made, .int l_caught, .int l_depth, .int l_calls, .ref l_kind, .ref l_list, .ref l_next, .ref l_turns, .ref l_limit, .ref l_other, .ref l_mark, .ref l_waits, .ref l_values, .ref l_locals]))] s.heap := hP
  have hl := lv_entry ([.ref hw]) (n := 1) (Nat.le_of_ble_eq_true rfl)
  rw [lg_entry_eq]
  generalize (lg_sl ([.ref hw]) ++ List.replicate (1 - (lg_sl ([.ref hw])).length) Slot.unset).toArray = ls at hl ⊢
  have hl : lv_has ls 1 [(0, .ref hw)] := hl
  refine lv_aload_n hx hb d_World_stop_0 rfl (lv_at hl 0 rfl) ?_
  refine va_get (D := (dC, dI)) (ci := 0) (v := .ref w_line) (C := R_World) (T := F_World) (N := 13) hx hb htt iw_World hown hK hP 0 rfl rfl 6 (by decide) (htt _ lk_World_63) (fun _ h9 => h9) rfl d_World_stop_1 ?_
  refine va_get (D := (dC, dI)) (ci := 8) (v := .int l_state) (C := R_Line) (T := F_Line) (N := 18) hx hb htt iw_Line hown hK hP 1 rfl rfl 1 (by decide) (htt _ lk_World_100) (fun _ h9 => h9) rfl d_World_stop_4 ?_
  refine lv_iconst (v := 1) hx hb d_World_stop_7 (by decide) ?_
  refine lv_icmp_eq (tgt := 13) hx hb d_World_stop_8 (by decide) (fun c_1 => ?_) (fun c_1 => ?_)
  · exact absurd c_1 (hs)
  · refine lv_iconst (v := 0) hx hb d_World_stop_11 (by decide) ?_
    have hP9 := hP.sub (ws' := [(hw, .inr (0, [.ref w_heap, .ref w_names, .ref w_procedures, .ref w_turtles, .ref w_output, .ref w_reader, .ref w_line, .ref w_deeds, .ref w_machine, .int w_lineList, .int w_keptTop, .int w_keptSeed, .int w_canGoBack])), (w_line, .inr (8, [.ref l_heap, .int l_state, .int l_error, .int l_done, .int l_made, .int l_caught, .int l_depth, .int l_calls, .ref l_kind, .ref l_list, .ref l_next, .ref l_turns, .ref l_limit, .ref l_other, .ref l_mark, .ref l_waits, .ref l_values, .ref l_locals]))]) [0, 1] rfl
    have hD9 := hD.sub (ws' := [(hw, .inr (0, [.ref w_heap, .ref w_names, .ref w_procedures, .ref w_turtles, .ref w_output, .ref w_reader, .ref w_line, .ref w_deeds, .ref w_machine, .int w_lineList, .int w_keptTop, .int w_keptSeed, .int w_canGoBack])), (w_line, .inr (8, [.ref l_heap, .int l_state, .int l_error, .int l_done, .int l_made, .int l_caught, .int l_depth, .int l_calls, .ref l_kind, .ref l_list, .ref l_next, .ref l_turns, .ref l_limit, .ref l_other, .ref l_mark, .ref l_waits, .ref l_values, .ref l_locals]))]) [0, 1] (by decide) rfl
    exact W.zret (v := 0) hx hb hr (by decide) (fun t9 ht hW => ⟨⟨0, (), rfl, rfl, by rw [ht]; exact hP9, va_K.moved hW.alike hK, hD9⟩, hS.F ht⟩) hS.2.2 d_World_stop_12

set_option maxHeartbeats 4000000 in
set_option maxRecDepth 100000 in
/-- a sign that is not there -/
theorem c_Output_latest_no (l : Launch) (dC : Nat → ClassId) (dI : Nat → Nat → Nat) (sz : Nat) (h0 : Nat) (o_heap : Nat) (o_signs : Nat) (o_next : Int32) (o_kept : Int32) (o_keptSigns : Nat) (o_keptNext : Int32) (o_keptKept : Int32) (o_text : Nat) (o_length : Int32) (o_lists : Nat) (o_nextMembers : Nat) (a : Int32) (hno : a < 0 ∨ o_kept ≤ a) : Met l y_Output_latest w_Output_latest ({ frames := 0, cells := 0, slots := 0, locals := 0 }) (va_Pc [.ref h0, .int a] (fun U => U.heap.size = sz ∧ va_P (dC, dI) classes [(h0, .inr (6, [.ref o_heap, .ref o_signs, .int o_next, .int o_kept, .ref o_keptSigns, .int o_keptNext, .int o_keptKept, .ref o_text, .int o_length, .ref o_lists, .ref o_nextMembers]))] U.heap ∧ va_K (dC, dI) classes [] U ∧ va_D (fun _ => True) [(h0, .inr (6, [.ref o_heap, .ref o_signs, .int o_next, .int o_kept, .ref o_keptSigns, .int o_keptNext, .int o_keptKept, .ref o_text, .int o_length, .ref o_lists, .ref o_nextMembers]))])) (va_Qi (fun (r : Int32) (_ : Unit) => r = (-1)) (fun (_ : Unit) t => va_P (dC, dI) classes [(h0, .inr (6, [.ref o_heap, .ref o_signs, .int o_next, .int o_kept, .ref o_keptSigns, .int o_keptNext, .int o_keptKept, .ref o_text, .int o_length, .ref o_lists, .ref o_nextMembers]))] t.heap ∧ va_K (dC, dI) classes [] t ∧ va_D (va_A [(h0, .inr (6, [.ref o_heap, .ref o_signs, .int o_next, .int o_kept, .ref o_keptSigns, .int o_keptNext, .int o_keptKept, .ref o_text, .int o_length, .ref o_lists, .ref o_nextMembers]))] sz) [(h0, .inr (6, [.ref o_heap, .ref o_signs, .int o_next, .int o_kept, .ref o_keptSigns, .int o_keptNext, .int o_keptKept, .ref o_text, .int o_length, .ref o_lists, .ref o_nextMembers]))]) (va_A [(h0, .inr (6, [.ref o_heap, .ref o_signs, .int o_next, .int o_kept, .ref o_keptSigns, .int o_keptNext, .int o_keptKept, .ref o_text, .int o_length, .ref o_lists, .ref o_nextMembers]))] sz)) 0 0 (va_A [(h0, .inr (6, [.ref o_heap, .ref o_signs, .int o_next, .int o_kept, .ref o_keptSigns, .int o_keptNext, .int o_keptKept, .ref o_text, .int o_length, .ref o_lists, .ref o_nextMembers]))] sz) := by
  refine Met.ofW (cc := b_Output_latest) (maxL := 2) (ret := (some .int)) (by decide) rfl ?_
  intro p e s m args below meth c s₁ B hml hv
  obtain ⟨rfl, hsz, hP, hK, hD0⟩ := hv
  have hx := B.exec
  have hb := B.bytes
  have hr := B.returns
  have hts := atoms_spec (ws := w_Output_latest) B.pre
  have htt : ∀ w ∈ tw_T, w.before _ s = true := fun w h => hts w (List.mem_cons_of_mem _ h)
  have hown : s.vm.findClass R_Output = some m.cls := findClass_of_methodNamed B.named
  have hlocks := B.notSynchronized
  subst hsz
  have hD := hD0.self (sz := s.heap.size)
  generalize hAe : va_A [(h0, .inr (6, [.ref o_heap, .ref o_signs, .int o_next, .int o_kept, .ref o_keptSigns, .int o_keptNext, .int o_keptKept, .ref o_text, .int o_length, .ref o_lists, .ref o_nextMembers]))] s.heap.size = A at hD ⊢
  have hA : ∀ q : Nat, s.heap.size ≤ q → A q := fun q h => by rw [← hAe]; exact Or.inr h
  have hS : va_S A s.heap s.heap [] := va_S.rf
  have hP : va_P (dC, dI) classes [(h0, .inr (6, [.ref o_heap, .ref o_signs, .int o_next, .int o_kept, .ref o_keptSigns, .int o_keptNext, .int o_keptKept, .ref o_text, .int o_length, .ref o_lists, .ref o_nextMembers]))] s.heap := hP
  have hl := lv_entry ([.ref h0, .int a]) (n := 2) (Nat.le_of_ble_eq_true rfl)
  rw [lg_entry_eq]
  generalize (lg_sl ([.ref h0, .int a]) ++ List.replicate (2 - (lg_sl ([.ref h0, .int a])).length) Slot.unset).toArray = ls at hl ⊢
  have hl : lv_has ls 2 [(0, .ref h0), (1, .int a)] := hl
  refine lv_iload_n hx hb d_Output_latest_0 rfl (lv_at hl 1 rfl) ?_
  refine lv_if_lt (tgt := 34) hx hb d_Output_latest_1 (by decide) (fun c_1 => ?_) (fun c_1 => ?_)
  · refine lv_iconst (v := -1) hx hb d_Output_latest_34 (by decide) ?_
    have hP9 := hP.sub (ws' := [(h0, .inr (6, [.ref o_heap, .ref o_signs, .int o_next, .int o_kept, .ref o_keptSigns, .int o_keptNext, .int o_keptKept, .ref o_text, .int o_length, .ref o_lists, .ref o_nextMembers]))]) [0] rfl
    have hD9 := hD.sub (ws' := [(h0, .inr (6, [.ref o_heap, .ref o_signs, .int o_next, .int o_kept, .ref o_keptSigns, .int o_keptNext, .int o_keptKept, .ref o_text, .int o_length, .ref o_lists, .ref o_nextMembers]))]) [0] (by decide) rfl
    exact W.iret (v := (-1)) hx hb hr (fun t9 ht hW => ⟨⟨(-1), (), rfl, rfl, by rw [ht]; exact hP9, va_K.moved hW.alike hK, hD9⟩, hS.F ht⟩) hS.2.2 d_Output_latest_35
  · refine lv_iload_n hx hb d_Output_latest_4 rfl (lv_at hl 1 rfl) ?_
    refine lv_aload_n hx hb d_Output_latest_5 rfl (lv_at hl 0 rfl) ?_
    refine va_get (D := (dC, dI)) (ci := 6) (v := .int o_kept) (C := R_Output) (T := F_Output) (N := 11) hx hb htt iw_Output hown hK hP 0 rfl rfl 3 (by decide) (htt _ lk_Output_64) (fun _ h9 => h9) rfl d_Output_latest_6 ?_
    refine lv_icmp_ge (tgt := 34) hx hb d_Output_latest_9 (by decide) (fun c_2 => ?_) (fun c_2 => ?_)
    · refine lv_iconst (v := -1) hx hb d_Output_latest_34 (by decide) ?_
      have hP9 := hP.sub (ws' := [(h0, .inr (6, [.ref o_heap, .ref o_signs, .int o_next, .int o_kept, .ref o_keptSigns, .int o_keptNext, .int o_keptKept, .ref o_text, .int o_length, .ref o_lists, .ref o_nextMembers]))]) [0] rfl
      have hD9 := hD.sub (ws' := [(h0, .inr (6, [.ref o_heap, .ref o_signs, .int o_next, .int o_kept, .ref o_keptSigns, .int o_keptNext, .int o_keptKept, .ref o_text, .int o_length, .ref o_lists, .ref o_nextMembers]))]) [0] (by decide) rfl
      exact W.iret (v := (-1)) hx hb hr (fun t9 ht hW => ⟨⟨(-1), (), rfl, rfl, by rw [ht]; exact hP9, va_K.moved hW.alike hK, hD9⟩, hS.F ht⟩) hS.2.2 d_Output_latest_35
    · exact absurd (hno.elim (fun h8 => absurd h8 c_1) id) c_2

set_option maxHeartbeats 4000000 in
set_option maxRecDepth 100000 in
/-- out, where there is none -/
theorem c_World_out_no (l : Launch) (dC : Nat → ClassId) (dI : Nat → Nat → Nat) (sz : Nat) (hw : Nat) (w_heap : Nat) (w_names : Nat) (w_procedures : Nat) (w_turtles : Nat) (w_output : Nat) (w_reader : Nat) (w_line : Nat) (w_deeds : Nat) (w_machine : Nat) (w_lineList : Int32) (w_keptTop : Int32) (w_keptSeed : Int32) (w_canGoBack : Int32) (o_heap : Nat) (o_signs : Nat) (o_next : Int32) (o_kept : Int32) (o_keptSigns : Nat) (o_keptNext : Int32) (o_keptKept : Int32) (o_text : Nat) (o_length : Int32) (o_lists : Nat) (o_nextMembers : Nat) (a : Int32) (hno : a < 0 ∨ o_kept ≤ a) : Met l y_World_out w_World_out ({ frames := 1, cells := 0, slots := 0, locals := 21 }) (va_Pc [.ref hw, .int a] (fun U => U.heap.size = sz ∧ va_P (dC, dI) classes [(hw, .inr (0, [.ref w_heap, .ref w_names, .ref w_procedures, .ref w_turtles, .ref w_output, .ref w_reader, .ref w_line, .ref w_deeds, .ref w_machine, .int w_lineList, .int w_keptTop, .int w_keptSeed, .int w_canGoBack])), (w_output, .inr (6, [.ref o_heap, .ref o_signs, .int o_next, .int o_kept, .ref o_keptSigns, .int o_keptNext, .int o_keptKept, .ref o_text, .int o_length, .ref o_lists, .ref o_nextMembers]))] U.heap ∧ va_K (dC, dI) classes [] U ∧ va_D (fun _ => True) [(hw, .inr (0, [.ref w_heap, .ref w_names, .ref w_procedures, .ref w_turtles, .ref w_output, .ref w_reader, .ref w_line, .ref w_deeds, .ref w_machine, .int w_lineList, .int w_keptTop, .int w_keptSeed, .int w_canGoBack])), (w_output, .inr (6, [.ref o_heap, .ref o_signs, .int o_next, .int o_kept, .ref o_keptSigns, .int o_keptNext, .int o_keptKept, .ref o_text, .int o_length, .ref o_lists, .ref o_nextMembers]))])) (va_Qi (fun (r : Int32) (_ : Unit) => r = (-1)) (fun (_ : Unit) t => va_P (dC, dI) classes [(hw, .inr (0, [.ref w_heap, .ref w_names, .ref w_procedures, .ref w_turtles, .ref w_output, .ref w_reader, .ref w_line, .ref w_deeds, .ref w_machine, .int w_lineList, .int w_keptTop, .int w_keptSeed, .int w_canGoBack])), (w_output, .inr (6, [.ref o_heap, .ref o_signs, .int o_next, .int o_kept, .ref o_keptSigns, .int o_keptNext, .int o_keptKept, .ref o_text, .int o_length, .ref o_lists, .ref o_nextMembers]))] t.heap ∧ va_K (dC, dI) classes [] t ∧ va_D (va_A [(hw, .inr (0, [.ref w_heap, .ref w_names, .ref w_procedures, .ref w_turtles, .ref w_output, .ref w_reader, .ref w_line, .ref w_deeds, .ref w_machine, .int w_lineList, .int w_keptTop, .int w_keptSeed, .int w_canGoBack])), (w_output, .inr (6, [.ref o_heap, .ref o_signs, .int o_next, .int o_kept, .ref o_keptSigns, .int o_keptNext, .int o_keptKept, .ref o_text, .int o_length, .ref o_lists, .ref o_nextMembers]))] sz) [(hw, .inr (0, [.ref w_heap, .ref w_names, .ref w_procedures, .ref w_turtles, .ref w_output, .ref w_reader, .ref w_line, .ref w_deeds, .ref w_machine, .int w_lineList, .int w_keptTop, .int w_keptSeed, .int w_canGoBack])), (w_output, .inr (6, [.ref o_heap, .ref o_signs, .int o_next, .int o_kept, .ref o_keptSigns, .int o_keptNext, .int o_keptKept, .ref o_text, .int o_length, .ref o_lists, .ref o_nextMembers]))]) (va_A [(hw, .inr (0, [.ref w_heap, .ref w_names, .ref w_procedures, .ref w_turtles, .ref w_output, .ref w_reader, .ref w_line, .ref w_deeds, .ref w_machine, .int w_lineList, .int w_keptTop, .int w_keptSeed, .int w_canGoBack])), (w_output, .inr (6, [.ref o_heap, .ref o_signs, .int o_next, .int o_kept, .ref o_keptSigns, .int o_keptNext, .int o_keptKept, .ref o_text, .int o_length, .ref o_lists, .ref o_nextMembers]))] sz)) 0 0 (va_A [(hw, .inr (0, [.ref w_heap, .ref w_names, .ref w_procedures, .ref w_turtles, .ref w_output, .ref w_reader, .ref w_line, .ref w_deeds, .ref w_machine, .int w_lineList, .int w_keptTop, .int w_keptSeed, .int w_canGoBack])), (w_output, .inr (6, [.ref o_heap, .ref o_signs, .int o_next, .int o_kept, .ref o_keptSigns, .int o_keptNext, .int o_keptKept, .ref o_text, .int o_length, .ref o_lists, .ref o_nextMembers]))] sz) := by
  refine Met.ofW (cc := b_World_out) (maxL := 2) (ret := (some .int)) (by decide) rfl ?_
  intro p e s m args below meth c s₁ B hml hv
  obtain ⟨rfl, hsz, hP, hK, hD0⟩ := hv
  have hx := B.exec
  have hb := B.bytes
  have hr := B.returns
  have hts := atoms_spec (ws := w_World_out) B.pre
  have htt : ∀ w ∈ tw_T, w.before _ s = true := fun w h => hts w (List.mem_cons_of_mem _ h)
  have hown : s.vm.findClass R_World = some m.cls := findClass_of_methodNamed B.named
  have hlocks := B.notSynchronized
  subst hsz
  have hD := hD0.self (sz := s.heap.size)
  generalize hAe : va_A [(hw, .inr (0, [.ref w_heap, .ref w_names, .ref w_procedures, .ref w_turtles, .ref w_output, .ref w_reader, .ref w_line, .ref w_deeds, .ref w_machine, .int w_lineList, .int w_keptTop, .int w_keptSeed, .int w_canGoBack])), (w_output, .inr (6, [.ref o_heap, .ref o_signs, .int o_next, .int o_kept, .ref o_keptSigns, .int o_keptNext, .int o_keptKept, .ref o_text, .int o_length, .ref o_lists, .ref o_nextMembers]))] s.heap.size = A at hD ⊢
  have hA : ∀ q : Nat, s.heap.size ≤ q → A q := fun q h => by rw [← hAe]; exact Or.inr h
  have hS : va_S A s.heap s.heap [] := va_S.rf
  have hP : va_P (dC, dI) classes [(hw, .inr (0, [.ref w_heap, .ref w_names, .ref w_procedures, .ref w_turtles, .ref w_output, .ref w_reader, .ref w_line, .ref w_deeds, .ref w_machine, .int w_lineList, .int w_keptTop, .int w_keptSeed, .int w_canGoBack])), (w_output, .inr (6, [.ref o_heap, .ref o_signs, .int o_next, .int o_kept, .ref o_keptSigns, .int o_keptNext, .int o_keptKept, .ref o_text, .int o_length, .ref o_lists, .ref o_nextMembers]))] s.heap := hP
  have hl := lv_entry ([.ref hw, .int a]) (n := 2) (Nat.le_of_ble_eq_true rfl)
  rw [lg_entry_eq]
  generalize (lg_sl ([.ref hw, .int a]) ++ List.replicate (2 - (lg_sl ([.ref hw, .int a])).length) Slot.unset).toArray = ls at hl ⊢
  have hl : lv_has ls 2 [(0, .ref hw), (1, .int a)] := hl
  refine lv_aload_n hx hb d_World_out_0 rfl (lv_at hl 0 rfl) ?_
  refine va_get (D := (dC, dI)) (ci := 0) (v := .ref w_output) (C := R_World) (T := F_World) (N := 13) hx hb htt iw_World hown hK hP 0 rfl rfl 4 (by decide) (htt _ lk_World_47) (fun _ h9 => h9) rfl d_World_out_1 ?_
  refine lv_iload_n hx hb d_World_out_4 rfl (lv_at hl 1 rfl) ?_
  have hPc := hP.sub (ws' := [(w_output, .inr (6, [.ref o_heap, .ref o_signs, .int o_next, .int o_kept, .ref o_keptSigns, .int o_keptNext, .int o_keptKept, .ref o_text, .int o_length, .ref o_lists, .ref o_nextMembers]))]) [1] rfl
  have hDc := hD.sub (ws' := [(w_output, .inr (6, [.ref o_heap, .ref o_signs, .int o_next, .int o_kept, .ref o_keptSigns, .int o_keptNext, .int o_keptKept, .ref o_text, .int o_length, .ref o_lists, .ref o_nextMembers]))]) [1] (by decide) rfl
  have hKc := hK.sub (tys' := []) [] rfl
  have hFc := va_free (wc := [(w_output, .inr (6, [.ref o_heap, .ref o_signs, .int o_next, .int o_kept, .ref o_keptSigns, .int o_keptNext, .int o_keptKept, .ref o_text, .int o_length, .ref o_lists, .ref o_nextMembers]))]) hD hS hA [1] rfl
  refine va_calli (va_runV (As := [.int a]) (rest := []) ⟨hx, hb, hml, hown, hts⟩ (c_Output_latest_no l dC dI s.heap.size w_output o_heap o_signs o_next o_kept o_keptSigns o_keptNext o_keptKept o_text o_length o_lists o_nextMembers a (by assumption)) (cwV 1 hts (tw_GV tw_cons cw_Output_latest lk_World_203 in_Output_latest sel_Output_latest ini_Output) rfl rfl rfl (by decide +kernel) ⟨Nat.le_of_ble_eq_true rfl, Nat.le_of_ble_eq_true rfl⟩) ⟨fun a U g mk q => by obtain ⟨q0, q1, qP, qK, qD⟩ := q; exact ⟨q0, q1, qP, va_K.moved (u := U) (U := U.calling g mk a) (Vm.Alike.refl U.vm) qK, qD⟩, va_recv hKc hPc (ci := 6) (q0 := 0) rfl rfl, fun U hU hW => ⟨rfl, by rw [hU], by rw [hU]; exact hPc, va_K.moved hW.alike hKc, hDc.weaken (fun _ _ _ _ => trivial)⟩⟩ rfl rfl hl.1 rfl (lv_room (Nat.le_of_ble_eq_true rfl)) d_World_out_5 ⟨Nat.le_of_ble_eq_true rfl, Nat.le_of_ble_eq_true rfl⟩) hS (fun q _ h => hFc q h) hFc (fun r9 u9 t9 H1 locs ht hvm e9 hB hz1 hk1 hS => ?_)
  obtain ⟨hP1, hK1, hD1⟩ := hB
  rw [ht] at hP1
  obtain ⟨hP, hD⟩ := va_join (wr := [(hw, .inr (0, [.ref w_heap, .ref w_names, .ref w_procedures, .ref w_turtles, .ref w_output, .ref w_reader, .ref w_line, .ref w_deeds, .ref w_machine, .int w_lineList, .int w_keptTop, .int w_keptSeed, .int w_canGoBack]))]) (w1 := [(w_output, .inr (6, [.ref o_heap, .ref o_signs, .int o_next, .int o_kept, .ref o_keptSigns, .int o_keptNext, .int o_keptKept, .ref o_text, .int o_length, .ref o_lists, .ref o_nextMembers]))]) hP hD [1] [0] rfl rfl (by decide) (by decide) hk1 hFc hP1 hD1
  subst e9
  clear hP1 hD1 hK1 hvm hz1 hk1 hFc hKc hDc hPc
  subst ht
  generalize t9.heap = H at hP hS ⊢
  have hP : va_P (dC, dI) classes [(hw, .inr (0, [.ref w_heap, .ref w_names, .ref w_procedures, .ref w_turtles, .ref w_output, .ref w_reader, .ref w_line, .ref w_deeds, .ref w_machine, .int w_lineList, .int w_keptTop, .int w_keptSeed, .int w_canGoBack])), (w_output, .inr (6, [.ref o_heap, .ref o_signs, .int o_next, .int o_kept, .ref o_keptSigns, .int o_keptNext, .int o_keptKept, .ref o_text, .int o_length, .ref o_lists, .ref o_nextMembers]))] H := hP
  have hD : va_D A [(hw, .inr (0, [.ref w_heap, .ref w_names, .ref w_procedures, .ref w_turtles, .ref w_output, .ref w_reader, .ref w_line, .ref w_deeds, .ref w_machine, .int w_lineList, .int w_keptTop, .int w_keptSeed, .int w_canGoBack])), (w_output, .inr (6, [.ref o_heap, .ref o_signs, .int o_next, .int o_kept, .ref o_keptSigns, .int o_keptNext, .int o_keptKept, .ref o_text, .int o_length, .ref o_lists, .ref o_nextMembers]))] := hD
  have hP9 := hP.sub (ws' := [(hw, .inr (0, [.ref w_heap, .ref w_names, .ref w_procedures, .ref w_turtles, .ref w_output, .ref w_reader, .ref w_line, .ref w_deeds, .ref w_machine, .int w_lineList, .int w_keptTop, .int w_keptSeed, .int w_canGoBack])), (w_output, .inr (6, [.ref o_heap, .ref o_signs, .int o_next, .int o_kept, .ref o_keptSigns, .int o_keptNext, .int o_keptKept, .ref o_text, .int o_length, .ref o_lists, .ref o_nextMembers]))]) [0, 1] rfl
  have hD9 := hD.sub (ws' := [(hw, .inr (0, [.ref w_heap, .ref w_names, .ref w_procedures, .ref w_turtles, .ref w_output, .ref w_reader, .ref w_line, .ref w_deeds, .ref w_machine, .int w_lineList, .int w_keptTop, .int w_keptSeed, .int w_canGoBack])), (w_output, .inr (6, [.ref o_heap, .ref o_signs, .int o_next, .int o_kept, .ref o_keptSigns, .int o_keptNext, .int o_keptKept, .ref o_text, .int o_length, .ref o_lists, .ref o_nextMembers]))]) [0, 1] (by decide) rfl
  exact W.iret (v := (-1)) hx hb hr (fun t9 ht hW => ⟨⟨(-1), (), rfl, rfl, by rw [ht]; exact hP9, va_K.moved hW.alike hK, hD9⟩, hS.F ht⟩) hS.2.2 d_World_out_8

set_option maxHeartbeats 4000000 in
set_option maxRecDepth 100000 in
/-- a VALUE that is not there -/
theorem c_Names_globalValue_no (l : Launch) (dC : Nat → ClassId) (dI : Nat → Nat → Nat) (sz : Nat) (h0 : Nat) (n_heap : Nat) (n_globalNames : Nat) (n_globalValues : Nat) (n_globals : Int32) (n_localNames : Nat) (n_localValues : Nat) (n_locals : Int32) (n_keptValues : Nat) (n_keptGlobals : Int32) (a : Int32) (hno : a < 0 ∨ n_globals ≤ a) : Met l y_Names_globalValue w_Names_globalValue ({ frames := 0, cells := 0, slots := 0, locals := 0 }) (va_Pc [.ref h0, .int a] (fun U => U.heap.size = sz ∧ va_P (dC, dI) classes [(h0, .inr (3, [.ref n_heap, .ref n_globalNames, .ref n_globalValues, .int n_globals, .ref n_localNames, .ref n_localValues, .int n_locals, .ref n_keptValues, .int n_keptGlobals]))] U.heap ∧ va_K (dC, dI) classes [] U ∧ va_D (fun _ => True) [(h0, .inr (3, [.ref n_heap, .ref n_globalNames, .ref n_globalValues, .int n_globals, .ref n_localNames, .ref n_localValues, .int n_locals, .ref n_keptValues, .int n_keptGlobals]))])) (va_Qi (fun (r : Int32) (_ : Unit) => r = (-2147483648)) (fun (_ : Unit) t => va_P (dC, dI) classes [(h0, .inr (3, [.ref n_heap, .ref n_globalNames, .ref n_globalValues, .int n_globals, .ref n_localNames, .ref n_localValues, .int n_locals, .ref n_keptValues, .int n_keptGlobals]))] t.heap ∧ va_K (dC, dI) classes [] t ∧ va_D (va_A [(h0, .inr (3, [.ref n_heap, .ref n_globalNames, .ref n_globalValues, .int n_globals, .ref n_localNames, .ref n_localValues, .int n_locals, .ref n_keptValues, .int n_keptGlobals]))] sz) [(h0, .inr (3, [.ref n_heap, .ref n_globalNames, .ref n_globalValues, .int n_globals, .ref n_localNames, .ref n_localValues, .int n_locals, .ref n_keptValues, .int n_keptGlobals]))]) (va_A [(h0, .inr (3, [.ref n_heap, .ref n_globalNames, .ref n_globalValues, .int n_globals, .ref n_localNames, .ref n_localValues, .int n_locals, .ref n_keptValues, .int n_keptGlobals]))] sz)) 0 0 (va_A [(h0, .inr (3, [.ref n_heap, .ref n_globalNames, .ref n_globalValues, .int n_globals, .ref n_localNames, .ref n_localValues, .int n_locals, .ref n_keptValues, .int n_keptGlobals]))] sz) := by
  refine Met.ofW (cc := b_Names_globalValue) (maxL := 2) (ret := (some .int)) (by decide) rfl ?_
  intro p e s m args below meth c s₁ B hml hv
  obtain ⟨rfl, hsz, hP, hK, hD0⟩ := hv
  have hx := B.exec
  have hb := B.bytes
  have hr := B.returns
  have hts := atoms_spec (ws := w_Names_globalValue) B.pre
  have htt : ∀ w ∈ tw_T, w.before _ s = true := fun w h => hts w (List.mem_cons_of_mem _ h)
  have hown : s.vm.findClass R_Names = some m.cls := findClass_of_methodNamed B.named
  have hlocks := B.notSynchronized
  subst hsz
  have hD := hD0.self (sz := s.heap.size)
  generalize hAe : va_A [(h0, .inr (3, [.ref n_heap, .ref n_globalNames, .ref n_globalValues, .int n_globals, .ref n_localNames, .ref n_localValues, .int n_locals, .ref n_keptValues, .int n_keptGlobals]))] s.heap.size = A at hD ⊢
  have hA : ∀ q : Nat, s.heap.size ≤ q → A q := fun q h => by rw [← hAe]; exact Or.inr h
  have hS : va_S A s.heap s.heap [] := va_S.rf
  have hP : va_P (dC, dI) classes [(h0, .inr (3, [.ref n_heap, .ref n_globalNames, .ref n_globalValues, .int n_globals, .ref n_localNames, .ref n_localValues, .int n_locals, .ref n_keptValues, .int n_keptGlobals]))] s.heap := hP
  have hl := lv_entry ([.ref h0, .int a]) (n := 2) (Nat.le_of_ble_eq_true rfl)
  rw [lg_entry_eq]
  generalize (lg_sl ([.ref h0, .int a]) ++ List.replicate (2 - (lg_sl ([.ref h0, .int a])).length) Slot.unset).toArray = ls at hl ⊢
  have hl : lv_has ls 2 [(0, .ref h0), (1, .int a)] := hl
  refine lv_iload_n hx hb d_Names_globalValue_0 rfl (lv_at hl 1 rfl) ?_
  refine lv_if_lt (tgt := 21) hx hb d_Names_globalValue_1 (by decide) (fun c_1 => ?_) (fun c_1 => ?_)
  · refine lv_ldc (v := (-2147483648)) hx hb hown (htt _ lk_Names_48) d_Names_globalValue_21 ?_
    have hP9 := hP.sub (ws' := [(h0, .inr (3, [.ref n_heap, .ref n_globalNames, .ref n_globalValues, .int n_globals, .ref n_localNames, .ref n_localValues, .int n_locals, .ref n_keptValues, .int n_keptGlobals]))]) [0] rfl
    have hD9 := hD.sub (ws' := [(h0, .inr (3, [.ref n_heap, .ref n_globalNames, .ref n_globalValues, .int n_globals, .ref n_localNames, .ref n_localValues, .int n_locals, .ref n_keptValues, .int n_keptGlobals]))]) [0] (by decide) rfl
    exact W.iret (v := (-2147483648)) hx hb hr (fun t9 ht hW => ⟨⟨(-2147483648), (), rfl, rfl, by rw [ht]; exact hP9, va_K.moved hW.alike hK, hD9⟩, hS.F ht⟩) hS.2.2 d_Names_globalValue_23
  · refine lv_iload_n hx hb d_Names_globalValue_4 rfl (lv_at hl 1 rfl) ?_
    refine lv_aload_n hx hb d_Names_globalValue_5 rfl (lv_at hl 0 rfl) ?_
    refine va_get (D := (dC, dI)) (ci := 3) (v := .int n_globals) (C := R_Names) (T := F_Names) (N := 9) hx hb htt iw_Names hown hK hP 0 rfl rfl 3 (by decide) (htt _ lk_Names_41) (fun _ h9 => h9) rfl d_Names_globalValue_6 ?_
    refine lv_icmp_ge (tgt := 21) hx hb d_Names_globalValue_9 (by decide) (fun c_2 => ?_) (fun c_2 => ?_)
    · refine lv_ldc (v := (-2147483648)) hx hb hown (htt _ lk_Names_48) d_Names_globalValue_21 ?_
      have hP9 := hP.sub (ws' := [(h0, .inr (3, [.ref n_heap, .ref n_globalNames, .ref n_globalValues, .int n_globals, .ref n_localNames, .ref n_localValues, .int n_locals, .ref n_keptValues, .int n_keptGlobals]))]) [0] rfl
      have hD9 := hD.sub (ws' := [(h0, .inr (3, [.ref n_heap, .ref n_globalNames, .ref n_globalValues, .int n_globals, .ref n_localNames, .ref n_localValues, .int n_locals, .ref n_keptValues, .int n_keptGlobals]))]) [0] (by decide) rfl
      exact W.iret (v := (-2147483648)) hx hb hr (fun t9 ht hW => ⟨⟨(-2147483648), (), rfl, rfl, by rw [ht]; exact hP9, va_K.moved hW.alike hK, hD9⟩, hS.F ht⟩) hS.2.2 d_Names_globalValue_23
    · exact absurd (hno.elim (fun h8 => absurd h8 c_1) id) c_2

set_option maxHeartbeats 4000000 in
set_option maxRecDepth 100000 in
/-- value, where there is none -/
theorem c_World_value_no (l : Launch) (dC : Nat → ClassId) (dI : Nat → Nat → Nat) (sz : Nat) (hw : Nat) (w_heap : Nat) (w_names : Nat) (w_procedures : Nat) (w_turtles : Nat) (w_output : Nat) (w_reader : Nat) (w_line : Nat) (w_deeds : Nat) (w_machine : Nat) (w_lineList : Int32) (w_keptTop : Int32) (w_keptSeed : Int32) (w_canGoBack : Int32) (n_heap : Nat) (n_globalNames : Nat) (n_globalValues : Nat) (n_globals : Int32) (n_localNames : Nat) (n_localValues : Nat) (n_locals : Int32) (n_keptValues : Nat) (n_keptGlobals : Int32) (a : Int32) (b : Int32) (hno : a < 0 ∨ n_globals ≤ a) : Met l y_World_value w_World_value ({ frames := 1, cells := 0, slots := 0, locals := 21 }) (va_Pc [.ref hw, .int a, .int b] (fun U => U.heap.size = sz ∧ va_P (dC, dI) classes [(hw, .inr (0, [.ref w_heap, .ref w_names, .ref w_procedures, .ref w_turtles, .ref w_output, .ref w_reader, .ref w_line, .ref w_deeds, .ref w_machine, .int w_lineList, .int w_keptTop, .int w_keptSeed, .int w_canGoBack])), (w_names, .inr (3, [.ref n_heap, .ref n_globalNames, .ref n_globalValues, .int n_globals, .ref n_localNames, .ref n_localValues, .int n_locals, .ref n_keptValues, .int n_keptGlobals]))] U.heap ∧ va_K (dC, dI) classes [] U ∧ va_D (fun _ => True) [(hw, .inr (0, [.ref w_heap, .ref w_names, .ref w_procedures, .ref w_turtles, .ref w_output, .ref w_reader, .ref w_line, .ref w_deeds, .ref w_machine, .int w_lineList, .int w_keptTop, .int w_keptSeed, .int w_canGoBack])), (w_names, .inr (3, [.ref n_heap, .ref n_globalNames, .ref n_globalValues, .int n_globals, .ref n_localNames, .ref n_localValues, .int n_locals, .ref n_keptValues, .int n_keptGlobals]))])) (va_Qi (fun (r : Int32) (_ : Unit) => r = (-1)) (fun (_ : Unit) t => va_P (dC, dI) classes [(hw, .inr (0, [.ref w_heap, .ref w_names, .ref w_procedures, .ref w_turtles, .ref w_output, .ref w_reader, .ref w_line, .ref w_deeds, .ref w_machine, .int w_lineList, .int w_keptTop, .int w_keptSeed, .int w_canGoBack])), (w_names, .inr (3, [.ref n_heap, .ref n_globalNames, .ref n_globalValues, .int n_globals, .ref n_localNames, .ref n_localValues, .int n_locals, .ref n_keptValues, .int n_keptGlobals]))] t.heap ∧ va_K (dC, dI) classes [] t ∧ va_D (va_A [(hw, .inr (0, [.ref w_heap, .ref w_names, .ref w_procedures, .ref w_turtles, .ref w_output, .ref w_reader, .ref w_line, .ref w_deeds, .ref w_machine, .int w_lineList, .int w_keptTop, .int w_keptSeed, .int w_canGoBack])), (w_names, .inr (3, [.ref n_heap, .ref n_globalNames, .ref n_globalValues, .int n_globals, .ref n_localNames, .ref n_localValues, .int n_locals, .ref n_keptValues, .int n_keptGlobals]))] sz) [(hw, .inr (0, [.ref w_heap, .ref w_names, .ref w_procedures, .ref w_turtles, .ref w_output, .ref w_reader, .ref w_line, .ref w_deeds, .ref w_machine, .int w_lineList, .int w_keptTop, .int w_keptSeed, .int w_canGoBack])), (w_names, .inr (3, [.ref n_heap, .ref n_globalNames, .ref n_globalValues, .int n_globals, .ref n_localNames, .ref n_localValues, .int n_locals, .ref n_keptValues, .int n_keptGlobals]))]) (va_A [(hw, .inr (0, [.ref w_heap, .ref w_names, .ref w_procedures, .ref w_turtles, .ref w_output, .ref w_reader, .ref w_line, .ref w_deeds, .ref w_machine, .int w_lineList, .int w_keptTop, .int w_keptSeed, .int w_canGoBack])), (w_names, .inr (3, [.ref n_heap, .ref n_globalNames, .ref n_globalValues, .int n_globals, .ref n_localNames, .ref n_localValues, .int n_locals, .ref n_keptValues, .int n_keptGlobals]))] sz)) 0 0 (va_A [(hw, .inr (0, [.ref w_heap, .ref w_names, .ref w_procedures, .ref w_turtles, .ref w_output, .ref w_reader, .ref w_line, .ref w_deeds, .ref w_machine, .int w_lineList, .int w_keptTop, .int w_keptSeed, .int w_canGoBack])), (w_names, .inr (3, [.ref n_heap, .ref n_globalNames, .ref n_globalValues, .int n_globals, .ref n_localNames, .ref n_localValues, .int n_locals, .ref n_keptValues, .int n_keptGlobals]))] sz) := by
  refine Met.ofW (cc := b_World_value) (maxL := 4) (ret := (some .int)) (by decide) rfl ?_
  intro p e s m args below meth c s₁ B hml hv
  obtain ⟨rfl, hsz, hP, hK, hD0⟩ := hv
  have hx := B.exec
  have hb := B.bytes
  have hr := B.returns
  have hts := atoms_spec (ws := w_World_value) B.pre
  have htt : ∀ w ∈ tw_T, w.before _ s = true := fun w h => hts w (List.mem_cons_of_mem _ h)
  have hown : s.vm.findClass R_World = some m.cls := findClass_of_methodNamed B.named
  have hlocks := B.notSynchronized
  subst hsz
  have hD := hD0.self (sz := s.heap.size)
  generalize hAe : va_A [(hw, .inr (0, [.ref w_heap, .ref w_names, .ref w_procedures, .ref w_turtles, .ref w_output, .ref w_reader, .ref w_line, .ref w_deeds, .ref w_machine, .int w_lineList, .int w_keptTop, .int w_keptSeed, .int w_canGoBack])), (w_names, .inr (3, [.ref n_heap, .ref n_globalNames, .ref n_globalValues, .int n_globals, .ref n_localNames, .ref n_localValues, .int n_locals, .ref n_keptValues, .int n_keptGlobals]))] s.heap.size = A at hD ⊢
  have hA : ∀ q : Nat, s.heap.size ≤ q → A q := fun q h => by rw [← hAe]; exact Or.inr h
  have hS : va_S A s.heap s.heap [] := va_S.rf
  have hP : va_P (dC, dI) classes [(hw, .inr (0, [.ref w_heap, .ref w_names, .ref w_procedures, .ref w_turtles, .ref w_output, .ref w_reader, .ref w_line, .ref w_deeds, .ref w_machine, .int w_lineList, .int w_keptTop, .int w_keptSeed, .int w_canGoBack])), (w_names, .inr (3, [.ref n_heap, .ref n_globalNames, .ref n_globalValues, .int n_globals, .ref n_localNames, .ref n_localValues, .int n_locals, .ref n_keptValues, .int n_keptGlobals]))] s.heap := hP
  have hl := lv_entry ([.ref hw, .int a, .int b]) (n := 4) (Nat.le_of_ble_eq_true rfl)
  rw [lg_entry_eq]
  generalize (lg_sl ([.ref hw, .int a, .int b]) ++ List.replicate (4 - (lg_sl ([.ref hw, .int a, .int b])).length) Slot.unset).toArray = ls at hl ⊢
  have hl : lv_has ls 4 [(0, .ref hw), (1, .int a), (2, .int b)] := hl
  refine lv_aload_n hx hb d_World_value_0 rfl (lv_at hl 0 rfl) ?_
  refine va_get (D := (dC, dI)) (ci := 0) (v := .ref w_names) (C := R_World) (T := F_World) (N := 13) hx hb htt iw_World hown hK hP 0 rfl rfl 1 (by decide) (htt _ lk_World_26) (fun _ h9 => h9) rfl d_World_value_1 ?_
  refine lv_iload_n hx hb d_World_value_4 rfl (lv_at hl 1 rfl) ?_
  have hPc := hP.sub (ws' := [(w_names, .inr (3, [.ref n_heap, .ref n_globalNames, .ref n_globalValues, .int n_globals, .ref n_localNames, .ref n_localValues, .int n_locals, .ref n_keptValues, .int n_keptGlobals]))]) [1] rfl
  have hDc := hD.sub (ws' := [(w_names, .inr (3, [.ref n_heap, .ref n_globalNames, .ref n_globalValues, .int n_globals, .ref n_localNames, .ref n_localValues, .int n_locals, .ref n_keptValues, .int n_keptGlobals]))]) [1] (by decide) rfl
  have hKc := hK.sub (tys' := []) [] rfl
  have hFc := va_free (wc := [(w_names, .inr (3, [.ref n_heap, .ref n_globalNames, .ref n_globalValues, .int n_globals, .ref n_localNames, .ref n_localValues, .int n_locals, .ref n_keptValues, .int n_keptGlobals]))]) hD hS hA [1] rfl
  refine va_calli (va_runV (As := [.int a]) (rest := []) ⟨hx, hb, hml, hown, hts⟩ (c_Names_globalValue_no l dC dI s.heap.size w_names n_heap n_globalNames n_globalValues n_globals n_localNames n_localValues n_locals n_keptValues n_keptGlobals a (by assumption)) (cwV 1 hts (tw_GV tw_cons cw_Names_globalValue lk_World_212 in_Names_globalValue sel_Names_globalValue ini_Names) rfl rfl rfl (by decide +kernel) ⟨Nat.le_of_ble_eq_true rfl, Nat.le_of_ble_eq_true rfl⟩) ⟨fun a U g mk q => by obtain ⟨q0, q1, qP, qK, qD⟩ := q; exact ⟨q0, q1, qP, va_K.moved (u := U) (U := U.calling g mk a) (Vm.Alike.refl U.vm) qK, qD⟩, va_recv hKc hPc (ci := 3) (q0 := 0) rfl rfl, fun U hU hW => ⟨rfl, by rw [hU], by rw [hU]; exact hPc, va_K.moved hW.alike hKc, hDc.weaken (fun _ _ _ _ => trivial)⟩⟩ rfl rfl hl.1 rfl (lv_room (Nat.le_of_ble_eq_true rfl)) d_World_value_5 ⟨Nat.le_of_ble_eq_true rfl, Nat.le_of_ble_eq_true rfl⟩) hS (fun q _ h => hFc q h) hFc (fun r9 u9 t9 H1 locs ht hvm e9 hB hz1 hk1 hS => ?_)
  obtain ⟨hP1, hK1, hD1⟩ := hB
  rw [ht] at hP1
  obtain ⟨hP, hD⟩ := va_join (wr := [(hw, .inr (0, [.ref w_heap, .ref w_names, .ref w_procedures, .ref w_turtles, .ref w_output, .ref w_reader, .ref w_line, .ref w_deeds, .ref w_machine, .int w_lineList, .int w_keptTop, .int w_keptSeed, .int w_canGoBack]))]) (w1 := [(w_names, .inr (3, [.ref n_heap, .ref n_globalNames, .ref n_globalValues, .int n_globals, .ref n_localNames, .ref n_localValues, .int n_locals, .ref n_keptValues, .int n_keptGlobals]))]) hP hD [1] [0] rfl rfl (by decide) (by decide) hk1 hFc hP1 hD1
  subst e9
  clear hP1 hD1 hK1 hvm hz1 hk1 hFc hKc hDc hPc
  subst ht
  generalize t9.heap = H at hP hS ⊢
  have hP : va_P (dC, dI) classes [(hw, .inr (0, [.ref w_heap, .ref w_names, .ref w_procedures, .ref w_turtles, .ref w_output, .ref w_reader, .ref w_line, .ref w_deeds, .ref w_machine, .int w_lineList, .int w_keptTop, .int w_keptSeed, .int w_canGoBack])), (w_names, .inr (3, [.ref n_heap, .ref n_globalNames, .ref n_globalValues, .int n_globals, .ref n_localNames, .ref n_localValues, .int n_locals, .ref n_keptValues, .int n_keptGlobals]))] H := hP
  have hD : va_D A [(hw, .inr (0, [.ref w_heap, .ref w_names, .ref w_procedures, .ref w_turtles, .ref w_output, .ref w_reader, .ref w_line, .ref w_deeds, .ref w_machine, .int w_lineList, .int w_keptTop, .int w_keptSeed, .int w_canGoBack])), (w_names, .inr (3, [.ref n_heap, .ref n_globalNames, .ref n_globalValues, .int n_globals, .ref n_localNames, .ref n_localValues, .int n_locals, .ref n_keptValues, .int n_keptGlobals]))] := hD
  refine lv_istore_n (lv' := [(3, .int ((-2147483648))), (0, .ref hw), (1, .int a), (2, .int b)]) hx hb d_World_value_8 rfl hl (by decide) rfl (fun ls hl => ?_)
  refine lv_iload_n hx hb d_World_value_9 rfl (lv_at hl 0 rfl) ?_
  refine lv_ldc (v := (-2147483648)) hx hb hown (htt _ lk_World_215) d_World_value_10 ?_
  refine lv_icmp_ne (tgt := 17) hx hb d_World_value_12 (by decide) (fun c_1 => ?_) (fun c_1 => ?_)
  · exact absurd c_1 (by decide)
  · refine lv_iconst (v := -1) hx hb d_World_value_15 (by decide) ?_
    have hP9 := hP.sub (ws' := [(hw, .inr (0, [.ref w_heap, .ref w_names, .ref w_procedures, .ref w_turtles, .ref w_output, .ref w_reader, .ref w_line, .ref w_deeds, .ref w_machine, .int w_lineList, .int w_keptTop, .int w_keptSeed, .int w_canGoBack])), (w_names, .inr (3, [.ref n_heap, .ref n_globalNames, .ref n_globalValues, .int n_globals, .ref n_localNames, .ref n_localValues, .int n_locals, .ref n_keptValues, .int n_keptGlobals]))]) [0, 1] rfl
    have hD9 := hD.sub (ws' := [(hw, .inr (0, [.ref w_heap, .ref w_names, .ref w_procedures, .ref w_turtles, .ref w_output, .ref w_reader, .ref w_line, .ref w_deeds, .ref w_machine, .int w_lineList, .int w_keptTop, .int w_keptSeed, .int w_canGoBack])), (w_names, .inr (3, [.ref n_heap, .ref n_globalNames, .ref n_globalValues, .int n_globals, .ref n_localNames, .ref n_localValues, .int n_locals, .ref n_keptValues, .int n_keptGlobals]))]) [0, 1] (by decide) rfl
    exact W.iret (v := (-1)) hx hb hr (fun t9 ht hW => ⟨⟨(-1), (), rfl, rfl, by rw [ht]; exact hP9, va_K.moved hW.alike hK, hD9⟩, hS.F ht⟩) hS.2.2 d_World_value_16
