theorem d_World_place_0 : decode b_World_place 0 = .ok (.iload_n 1, 1) := by decide +kernel
theorem d_World_place_1 : decode b_World_place 1 = .ok (.invokestatic 186, 3) := by decide +kernel
theorem d_World_place_4 : decode b_World_place 4 = .ok (.ifCond .eq 21, 3) := by decide +kernel
theorem d_World_place_7 : decode b_World_place 7 = .ok (.iload_n 2, 1) := by decide +kernel
theorem d_World_place_8 : decode b_World_place 8 = .ok (.ifCond .lt 17, 3) := by decide +kernel
theorem d_World_place_11 : decode b_World_place 11 = .ok (.iload_n 2, 1) := by decide +kernel
theorem d_World_place_12 : decode b_World_place 12 = .ok (.iconst 1, 1) := by decide +kernel
theorem d_World_place_13 : decode b_World_place 13 = .ok (.if_icmp .gt 12, 3) := by decide +kernel
theorem d_World_place_16 : decode b_World_place 16 = .ok (.iload_n 3, 1) := by decide +kernel
theorem d_World_place_17 : decode b_World_place 17 = .ok (.ifCond .lt 8, 3) := by decide +kernel
theorem d_World_place_20 : decode b_World_place 20 = .ok (.iload_n 3, 1) := by decide +kernel
theorem d_World_place_21 : decode b_World_place 21 = .ok (.iconst 1, 1) := by decide +kernel
theorem d_World_place_22 : decode b_World_place 22 = .ok (.if_icmp .le 11, 3) := by decide +kernel
theorem d_World_place_25 : decode b_World_place 25 = .ok (.new 189, 3) := by decide +kernel
theorem d_World_place_28 : decode b_World_place 28 = .ok (.dup, 1) := by decide +kernel
theorem d_World_place_29 : decode b_World_place 29 = .ok (.invokespecial 191, 3) := by decide +kernel
theorem d_World_place_32 : decode b_World_place 32 = .ok (.athrow, 1) := by decide +kernel
theorem d_World_place_33 : decode b_World_place 33 = .ok (.aload_n 0, 1) := by decide +kernel
theorem d_World_place_34 : decode b_World_place 34 = .ok (.getfield 40, 3) := by decide +kernel
theorem d_World_place_37 : decode b_World_place 37 = .ok (.iload_n 1, 1) := by decide +kernel
theorem d_World_place_38 : decode b_World_place 38 = .ok (.iconst 2, 1) := by decide +kernel
theorem d_World_place_39 : decode b_World_place 39 = .ok (.iload_n 2, 1) := by decide +kernel
theorem d_World_place_40 : decode b_World_place 40 = .ok (.imul, 1) := by decide +kernel
theorem d_World_place_41 : decode b_World_place 41 = .ok (.iload_n 3, 1) := by decide +kernel
theorem d_World_place_42 : decode b_World_place 42 = .ok (.iadd, 1) := by decide +kernel
theorem d_World_place_43 : decode b_World_place 43 = .ok (.invokevirtual 192, 3) := by decide +kernel
theorem d_World_place_46 : decode b_World_place 46 = .ok (.ireturn, 1) := by decide +kernel
theorem d_World_side_0 : decode b_World_side 0 = .ok (.iload_n 1, 1) := by decide +kernel
theorem d_World_side_1 : decode b_World_side 1 = .ok (.invokestatic 186, 3) := by decide +kernel
theorem d_World_side_4 : decode b_World_side 4 = .ok (.ifCond .eq 12, 3) := by decide +kernel
theorem d_World_side_7 : decode b_World_side 7 = .ok (.iload_n 2, 1) := by decide +kernel
theorem d_World_side_8 : decode b_World_side 8 = .ok (.ifCond .lt 8, 3) := by decide +kernel
theorem d_World_side_11 : decode b_World_side 11 = .ok (.iload_n 2, 1) := by decide +kernel
theorem d_World_side_12 : decode b_World_side 12 = .ok (.iconst 1, 1) := by decide +kernel
theorem d_World_side_13 : decode b_World_side 13 = .ok (.if_icmp .le 11, 3) := by decide +kernel
theorem d_World_side_16 : decode b_World_side 16 = .ok (.new 189, 3) := by decide +kernel
theorem d_World_side_19 : decode b_World_side 19 = .ok (.dup, 1) := by decide +kernel
theorem d_World_side_20 : decode b_World_side 20 = .ok (.invokespecial 191, 3) := by decide +kernel
theorem d_World_side_23 : decode b_World_side 23 = .ok (.athrow, 1) := by decide +kernel
theorem d_World_side_24 : decode b_World_side 24 = .ok (.aload_n 0, 1) := by decide +kernel
theorem d_World_side_25 : decode b_World_side 25 = .ok (.getfield 40, 3) := by decide +kernel
theorem d_World_side_28 : decode b_World_side 28 = .ok (.iload_n 1, 1) := by decide +kernel
theorem d_World_side_29 : decode b_World_side 29 = .ok (.iconst 2, 1) := by decide +kernel
theorem d_World_side_30 : decode b_World_side 30 = .ok (.iload_n 2, 1) := by decide +kernel
theorem d_World_side_31 : decode b_World_side 31 = .ok (.imul, 1) := by decide +kernel
theorem d_World_side_32 : decode b_World_side 32 = .ok (.invokevirtual 192, 3) := by decide +kernel
theorem d_World_side_35 : decode b_World_side 35 = .ok (.aload_n 0, 1) := by decide +kernel
theorem d_World_side_36 : decode b_World_side 36 = .ok (.getfield 40, 3) := by decide +kernel
theorem d_World_side_39 : decode b_World_side 39 = .ok (.iload_n 1, 1) := by decide +kernel
theorem d_World_side_40 : decode b_World_side 40 = .ok (.iconst 2, 1) := by decide +kernel
theorem d_World_side_41 : decode b_World_side 41 = .ok (.iload_n 2, 1) := by decide +kernel
theorem d_World_side_42 : decode b_World_side 42 = .ok (.imul, 1) := by decide +kernel
theorem d_World_side_43 : decode b_World_side 43 = .ok (.iconst 1, 1) := by decide +kernel
theorem d_World_side_44 : decode b_World_side 44 = .ok (.iadd, 1) := by decide +kernel
theorem d_World_side_45 : decode b_World_side 45 = .ok (.invokevirtual 192, 3) := by decide +kernel
theorem d_World_side_48 : decode b_World_side 48 = .ok (.iload_n 3, 1) := by decide +kernel
theorem d_World_side_49 : decode b_World_side 49 = .ok (.invokestatic 196, 3) := by decide +kernel
theorem d_World_side_52 : decode b_World_side 52 = .ok (.ireturn, 1) := by decide +kernel
theorem lk_World_196 : Cond.methodLink "TurtleWorld" 196 ⟨"TurtleWorld$Turtles", "sideOf", "(III)I"⟩ ∈ tw_T := tw_i8 62 (by decide +kernel) (by decide +kernel)
theorem st_Turtles_sideOf : Cond.static ⟨"TurtleWorld$Turtles", "sideOf", "(III)I"⟩ ∈ tw_T := tw_i6 52 (by decide +kernel) (by decide +kernel)
theorem d_Model_place_0 : decode b_Model_place 0 = .ok (.aload_n 0, 1) := by decide +kernel
theorem d_Model_place_1 : decode b_Model_place 1 = .ok (.aload_n 0, 1) := by decide +kernel
theorem d_Model_place_2 : decode b_Model_place 2 = .ok (.iload_n 1, 1) := by decide +kernel
theorem d_Model_place_3 : decode b_Model_place 3 = .ok (.invokevirtual 849, 3) := by decide +kernel
theorem d_Model_place_6 : decode b_Model_place 6 = .ok (.ifCond .eq 25, 3) := by decide +kernel
theorem d_Model_place_9 : decode b_Model_place 9 = .ok (.iload_n 2, 1) := by decide +kernel
theorem d_Model_place_10 : decode b_Model_place 10 = .ok (.ifCond .eq 8, 3) := by decide +kernel
theorem d_Model_place_13 : decode b_Model_place 13 = .ok (.iload_n 2, 1) := by decide +kernel
theorem d_Model_place_14 : decode b_Model_place 14 = .ok (.iconst 1, 1) := by decide +kernel
theorem d_Model_place_15 : decode b_Model_place 15 = .ok (.if_icmp .ne 16, 3) := by decide +kernel
theorem d_Model_place_18 : decode b_Model_place 18 = .ok (.iload_n 3, 1) := by decide +kernel
theorem d_Model_place_19 : decode b_Model_place 19 = .ok (.ifCond .eq 8, 3) := by decide +kernel
theorem d_Model_place_22 : decode b_Model_place 22 = .ok (.iload_n 3, 1) := by decide +kernel
theorem d_Model_place_23 : decode b_Model_place 23 = .ok (.iconst 1, 1) := by decide +kernel
theorem d_Model_place_24 : decode b_Model_place 24 = .ok (.if_icmp .ne 7, 3) := by decide +kernel
theorem d_Model_place_27 : decode b_Model_place 27 = .ok (.iconst 0, 1) := by decide +kernel
theorem d_Model_place_28 : decode b_Model_place 28 = .ok (.goto 4, 3) := by decide +kernel
theorem d_Model_place_31 : decode b_Model_place 31 = .ok (.iconst 1, 1) := by decide +kernel
theorem d_Model_place_32 : decode b_Model_place 32 = .ok (.putfield 1, 3) := by decide +kernel
theorem d_Model_place_35 : decode b_Model_place 35 = .ok (.aload_n 0, 1) := by decide +kernel
theorem d_Model_place_36 : decode b_Model_place 36 = .ok (.getfield 1, 3) := by decide +kernel
theorem d_Model_place_39 : decode b_Model_place 39 = .ok (.iconst 1, 1) := by decide +kernel
theorem d_Model_place_40 : decode b_Model_place 40 = .ok (.if_icmp .ne 7, 3) := by decide +kernel
theorem d_Model_place_43 : decode b_Model_place 43 = .ok (.iconst 0, 1) := by decide +kernel
theorem d_Model_place_44 : decode b_Model_place 44 = .ok (.goto 14, 3) := by decide +kernel
theorem d_Model_place_47 : decode b_Model_place 47 = .ok (.aload_n 0, 1) := by decide +kernel
theorem d_Model_place_48 : decode b_Model_place 48 = .ok (.iconst 2, 1) := by decide +kernel
theorem d_Model_place_49 : decode b_Model_place 49 = .ok (.iload_n 2, 1) := by decide +kernel
theorem d_Model_place_50 : decode b_Model_place 50 = .ok (.imul, 1) := by decide +kernel
theorem d_Model_place_51 : decode b_Model_place 51 = .ok (.iload_n 3, 1) := by decide +kernel
theorem d_Model_place_52 : decode b_Model_place 52 = .ok (.iadd, 1) := by decide +kernel
theorem d_Model_place_53 : decode b_Model_place 53 = .ok (.invokevirtual 340, 3) := by decide +kernel
theorem d_Model_place_56 : decode b_Model_place 56 = .ok (.iload_n 1, 1) := by decide +kernel
theorem d_Model_place_57 : decode b_Model_place 57 = .ok (.iaload, 1) := by decide +kernel
theorem d_Model_place_58 : decode b_Model_place 58 = .ok (.ireturn, 1) := by decide +kernel
theorem d_Model_side_0 : decode b_Model_side 0 = .ok (.aload_n 0, 1) := by decide +kernel
theorem d_Model_side_1 : decode b_Model_side 1 = .ok (.aload_n 0, 1) := by decide +kernel
theorem d_Model_side_2 : decode b_Model_side 2 = .ok (.iload_n 1, 1) := by decide +kernel
theorem d_Model_side_3 : decode b_Model_side 3 = .ok (.invokevirtual 849, 3) := by decide +kernel
theorem d_Model_side_6 : decode b_Model_side 6 = .ok (.ifCond .eq 16, 3) := by decide +kernel
theorem d_Model_side_9 : decode b_Model_side 9 = .ok (.iload_n 2, 1) := by decide +kernel
theorem d_Model_side_10 : decode b_Model_side 10 = .ok (.ifCond .eq 8, 3) := by decide +kernel
theorem d_Model_side_13 : decode b_Model_side 13 = .ok (.iload_n 2, 1) := by decide +kernel
theorem d_Model_side_14 : decode b_Model_side 14 = .ok (.iconst 1, 1) := by decide +kernel
theorem d_Model_side_15 : decode b_Model_side 15 = .ok (.if_icmp .ne 7, 3) := by decide +kernel
theorem d_Model_side_18 : decode b_Model_side 18 = .ok (.iconst 0, 1) := by decide +kernel
theorem d_Model_side_19 : decode b_Model_side 19 = .ok (.goto 4, 3) := by decide +kernel
theorem d_Model_side_22 : decode b_Model_side 22 = .ok (.iconst 1, 1) := by decide +kernel
theorem d_Model_side_23 : decode b_Model_side 23 = .ok (.putfield 1, 3) := by decide +kernel
theorem d_Model_side_26 : decode b_Model_side 26 = .ok (.aload_n 0, 1) := by decide +kernel
theorem d_Model_side_27 : decode b_Model_side 27 = .ok (.getfield 1, 3) := by decide +kernel
theorem d_Model_side_30 : decode b_Model_side 30 = .ok (.iconst 1, 1) := by decide +kernel
theorem d_Model_side_31 : decode b_Model_side 31 = .ok (.if_icmp .ne 7, 3) := by decide +kernel
theorem d_Model_side_34 : decode b_Model_side 34 = .ok (.iconst 0, 1) := by decide +kernel
theorem d_Model_side_35 : decode b_Model_side 35 = .ok (.goto 35, 3) := by decide +kernel
theorem d_Model_side_38 : decode b_Model_side 38 = .ok (.aload_n 0, 1) := by decide +kernel
theorem d_Model_side_39 : decode b_Model_side 39 = .ok (.iconst 2, 1) := by decide +kernel
theorem d_Model_side_40 : decode b_Model_side 40 = .ok (.iload_n 2, 1) := by decide +kernel
theorem d_Model_side_41 : decode b_Model_side 41 = .ok (.imul, 1) := by decide +kernel
theorem d_Model_side_42 : decode b_Model_side 42 = .ok (.invokevirtual 340, 3) := by decide +kernel
theorem d_Model_side_45 : decode b_Model_side 45 = .ok (.iload_n 1, 1) := by decide +kernel
theorem d_Model_side_46 : decode b_Model_side 46 = .ok (.iaload, 1) := by decide +kernel
theorem d_Model_side_47 : decode b_Model_side 47 = .ok (.i2l, 1) := by decide +kernel
theorem d_Model_side_48 : decode b_Model_side 48 = .ok (.ldc2_w 9, 3) := by decide +kernel
theorem d_Model_side_51 : decode b_Model_side 51 = .ok (.iload_n 3, 1) := by decide +kernel
theorem d_Model_side_52 : decode b_Model_side 52 = .ok (.i2l, 1) := by decide +kernel
theorem d_Model_side_53 : decode b_Model_side 53 = .ok (.lmul, 1) := by decide +kernel
theorem d_Model_side_54 : decode b_Model_side 54 = .ok (.lsub, 1) := by decide +kernel
theorem d_Model_side_55 : decode b_Model_side 55 = .ok (.aload_n 0, 1) := by decide +kernel
theorem d_Model_side_56 : decode b_Model_side 56 = .ok (.iconst 2, 1) := by decide +kernel
theorem d_Model_side_57 : decode b_Model_side 57 = .ok (.iload_n 2, 1) := by decide +kernel
theorem d_Model_side_58 : decode b_Model_side 58 = .ok (.imul, 1) := by decide +kernel
theorem d_Model_side_59 : decode b_Model_side 59 = .ok (.iconst 1, 1) := by decide +kernel
theorem d_Model_side_60 : decode b_Model_side 60 = .ok (.iadd, 1) := by decide +kernel
theorem d_Model_side_61 : decode b_Model_side 61 = .ok (.invokevirtual 340, 3) := by decide +kernel
theorem d_Model_side_64 : decode b_Model_side 64 = .ok (.iload_n 1, 1) := by decide +kernel
theorem d_Model_side_65 : decode b_Model_side 65 = .ok (.iaload, 1) := by decide +kernel
theorem d_Model_side_66 : decode b_Model_side 66 = .ok (.i2l, 1) := by decide +kernel
theorem d_Model_side_67 : decode b_Model_side 67 = .ok (.invokestatic 842, 3) := by decide +kernel
theorem d_Model_side_70 : decode b_Model_side 70 = .ok (.ireturn, 1) := by decide +kernel
theorem lk_Model_842 : Cond.methodLink "TurtleWorldModel" 842 ⟨"TurtleWorldModel", "sign", "(JJ)I"⟩ ∈ tw_T := tw_i11 25 (by decide +kernel) (by decide +kernel)
theorem st_Model_sign : Cond.static ⟨"TurtleWorldModel", "sign", "(JJ)I"⟩ ∈ tw_T := tw_i11 26 (by decide +kernel) (by decide +kernel)
def m_World_place_r (t_parts_v : Nat → Int32) (a : Int32) (b : Int32) (d : Int32) : Int32 := ts_part t_parts_v a ((2 * b) + d)
set_option maxHeartbeats 4000000 in
set_option maxRecDepth 100000 in
/-- place, of a turtle that is there -/
theorem c_World_place_ok (l : Launch) (dC : Nat → ClassId) (dI : Nat → Nat → Nat) (sz : Nat) (hw : Nat) (w_heap : Nat) (w_names : Nat) (w_procedures : Nat) (w_turtles : Nat) (w_output : Nat) (w_reader : Nat) (w_line : Nat) (w_deeds : Nat) (w_machine : Nat) (w_lineList : Int32) (w_keptTop : Int32) (w_keptSeed : Int32) (w_canGoBack : Int32) (t_parts : Nat) (t_dots : Nat) (t_told : Int32) (t_start : Nat) (t_goal : Nat) (t_keptParts : Nat) (t_keptDots : Nat) (t_keptTold : Int32) (cI : ClassId) (t_parts_v : Nat → Int32) (a : Int32) (b : Int32) (d : Int32) (hxt : ¬ ts_exists a = 0) (hb0 : ¬ b < 0) (hb1 : ¬ 1 < b) (hd0 : ¬ d < 0) (hd1 : d ≤ 1) : Met l y_World_place w_World_place ({ frames := 2, cells := 0, slots := 0, locals := 42 }) (va_Pc [.ref hw, .int a, .int b, .int d] (fun U => U.heap.size = sz ∧ va_P (dC, dI) classes [(hw, .inr (0, [.ref w_heap, .ref w_names, .ref w_procedures, .ref w_turtles, .ref w_output, .ref w_reader, .ref w_line, .ref w_deeds, .ref w_machine, .int w_lineList, .int w_keptTop, .int w_keptSeed, .int w_canGoBack])), (w_turtles, .inr (5, [.ref t_parts, .ref t_dots, .int t_told, .ref t_start, .ref t_goal, .ref t_keptParts, .ref t_keptDots, .int t_keptTold])), (t_parts, .inl (cI, 56, .inl t_parts_v))] U.heap ∧ va_K (dC, dI) classes [(cI, .int)] U ∧ va_D (fun _ => True) [(hw, .inr (0, [.ref w_heap, .ref w_names, .ref w_procedures, .ref w_turtles, .ref w_output, .ref w_reader, .ref w_line, .ref w_deeds, .ref w_machine, .int w_lineList, .int w_keptTop, .int w_keptSeed, .int w_canGoBack])), (w_turtles, .inr (5, [.ref t_parts, .ref t_dots, .int t_told, .ref t_start, .ref t_goal, .ref t_keptParts, .ref t_keptDots, .int t_keptTold])), (t_parts, .inl (cI, 56, .inl t_parts_v))])) (va_Qi (fun (r : Int32) (_ : Unit) => r = m_World_place_r t_parts_v a b d) (fun (_ : Unit) t => va_P (dC, dI) classes [(hw, .inr (0, [.ref w_heap, .ref w_names, .ref w_procedures, .ref w_turtles, .ref w_output, .ref w_reader, .ref w_line, .ref w_deeds, .ref w_machine, .int w_lineList, .int w_keptTop, .int w_keptSeed, .int w_canGoBack])), (w_turtles, .inr (5, [.ref t_parts, .ref t_dots, .int t_told, .ref t_start, .ref t_goal, .ref t_keptParts, .ref t_keptDots, .int t_keptTold])), (t_parts, .inl (cI, 56, .inl t_parts_v))] t.heap ∧ va_K (dC, dI) classes [(cI, .int)] t ∧ va_D (va_A [(hw, .inr (0, [.ref w_heap, .ref w_names, .ref w_procedures, .ref w_turtles, .ref w_output, .ref w_reader, .ref w_line, .ref w_deeds, .ref w_machine, .int w_lineList, .int w_keptTop, .int w_keptSeed, .int w_canGoBack])), (w_turtles, .inr (5, [.ref t_parts, .ref t_dots, .int t_told, .ref t_start, .ref t_goal, .ref t_keptParts, .ref t_keptDots, .int t_keptTold])), (t_parts, .inl (cI, 56, .inl t_parts_v))] sz) [(hw, .inr (0, [.ref w_heap, .ref w_names, .ref w_procedures, .ref w_turtles, .ref w_output, .ref w_reader, .ref w_line, .ref w_deeds, .ref w_machine, .int w_lineList, .int w_keptTop, .int w_keptSeed, .int w_canGoBack])), (w_turtles, .inr (5, [.ref t_parts, .ref t_dots, .int t_told, .ref t_start, .ref t_goal, .ref t_keptParts, .ref t_keptDots, .int t_keptTold])), (t_parts, .inl (cI, 56, .inl t_parts_v))]) (va_A [(hw, .inr (0, [.ref w_heap, .ref w_names, .ref w_procedures, .ref w_turtles, .ref w_output, .ref w_reader, .ref w_line, .ref w_deeds, .ref w_machine, .int w_lineList, .int w_keptTop, .int w_keptSeed, .int w_canGoBack])), (w_turtles, .inr (5, [.ref t_parts, .ref t_dots, .int t_told, .ref t_start, .ref t_goal, .ref t_keptParts, .ref t_keptDots, .int t_keptTold])), (t_parts, .inl (cI, 56, .inl t_parts_v))] sz)) 0 0 (va_A [(hw, .inr (0, [.ref w_heap, .ref w_names, .ref w_procedures, .ref w_turtles, .ref w_output, .ref w_reader, .ref w_line, .ref w_deeds, .ref w_machine, .int w_lineList, .int w_keptTop, .int w_keptSeed, .int w_canGoBack])), (w_turtles, .inr (5, [.ref t_parts, .ref t_dots, .int t_told, .ref t_start, .ref t_goal, .ref t_keptParts, .ref t_keptDots, .int t_keptTold])), (t_parts, .inl (cI, 56, .inl t_parts_v))] sz) := by
  refine Met.ofW (cc := b_World_place) (maxL := 4) (ret := (some .int)) (by decide) rfl ?_
  intro p e s m args below meth c s₁ B hml hv
  obtain ⟨rfl, hsz, hP, hK, hD0⟩ := hv
  have hx := B.exec
  have hb := B.bytes
  have hr := B.returns
  have hts := atoms_spec (ws := w_World_place) B.pre
  have htt : ∀ w ∈ tw_T, w.before _ s = true := fun w h => hts w (List.mem_cons_of_mem _ h)
  have hown : s.vm.findClass R_World = some m.cls := findClass_of_methodNamed B.named
  have hlocks := B.notSynchronized
  subst hsz
  have hD := hD0.self (sz := s.heap.size)
  generalize hAe : va_A [(hw, .inr (0, [.ref w_heap, .ref w_names, .ref w_procedures, .ref w_turtles, .ref w_output, .ref w_reader, .ref w_line, .ref w_deeds, .ref w_machine, .int w_lineList, .int w_keptTop, .int w_keptSeed, .int w_canGoBack])), (w_turtles, .inr (5, [.ref t_parts, .ref t_dots, .int t_told, .ref t_start, .ref t_goal, .ref t_keptParts, .ref t_keptDots, .int t_keptTold])), (t_parts, .inl (cI, 56, .inl t_parts_v))] s.heap.size = A at hD ⊢
  have hA : ∀ q : Nat, s.heap.size ≤ q → A q := fun q h => by rw [← hAe]; exact Or.inr h
  have hS : va_S A s.heap s.heap [] := va_S.rf
  have hP : va_P (dC, dI) classes [(hw, .inr (0, [.ref w_heap, .ref w_names, .ref w_procedures, .ref w_turtles, .ref w_output, .ref w_reader, .ref w_line, .ref w_deeds, .ref w_machine, .int w_lineList, .int w_keptTop, .int w_keptSeed, .int w_canGoBack])), (w_turtles, .inr (5, [.ref t_parts, .ref t_dots, .int t_told, .ref t_start, .ref t_goal, .ref t_keptParts, .ref t_keptDots, .int t_keptTold])), (t_parts, .inl (cI, 56, .inl t_parts_v))] s.heap := hP
  have hl := lv_entry ([.ref hw, .int a, .int b, .int d]) (n := 4) (Nat.le_of_ble_eq_true rfl)
  rw [lg_entry_eq]
  generalize (lg_sl ([.ref hw, .int a, .int b, .int d]) ++ List.replicate (4 - (lg_sl ([.ref hw, .int a, .int b, .int d])).length) Slot.unset).toArray = ls at hl ⊢
  have hl : lv_has ls 4 [(0, .ref hw), (1, .int a), (2, .int b), (3, .int d)] := hl
  refine lv_iload_n hx hb d_World_place_0 rfl (lv_at hl 1 rfl) ?_
  have hPc := hP.sub (ws' := []) [] rfl
  have hDc := hD.sub (ws' := []) [] (by decide) rfl
  have hKc := hK.sub (tys' := []) [] rfl
  have hFc := va_free (wc := []) hD hS hA [] rfl
  refine va_calli (va_runS (As := [.int a]) (rest := []) ⟨hx, hb, hml, hown, hts⟩ (c_Turtles_exists l dC dI s.heap.size a) (va_cwS 1 hts (tw_GS tw_cons cw_Turtles_exists lk_World_186 st_Turtles_exists ini_Turtles) rfl rfl rfl (by decide +kernel) ⟨Nat.le_of_ble_eq_true rfl, Nat.le_of_ble_eq_true rfl⟩) ⟨fun a U g mk q => by obtain ⟨q0, q1, qP, qK, qD⟩ := q; exact ⟨q0, q1, qP, va_K.moved (u := U) (U := U.calling g mk a) (Vm.Alike.refl U.vm) qK, qD⟩, fun U hU hW => ⟨rfl, by rw [hU], by rw [hU]; exact hPc, va_K.moved hW.alike hKc, hDc.weaken (fun _ _ _ _ => trivial)⟩⟩ rfl rfl hl.1 rfl (lv_room (Nat.le_of_ble_eq_true rfl)) d_World_place_1 ⟨Nat.le_of_ble_eq_true rfl, Nat.le_of_ble_eq_true rfl⟩) hS (fun q _ h => hFc q h) hFc (fun r9 u9 t9 H1 locs ht hvm e9 hB hz1 hk1 hS => ?_)
  obtain ⟨hP1, hK1, hD1⟩ := hB
  rw [ht] at hP1
  obtain ⟨hP, hD⟩ := va_join (wr := [(hw, .inr (0, [.ref w_heap, .ref w_names, .ref w_procedures, .ref w_turtles, .ref w_output, .ref w_reader, .ref w_line, .ref w_deeds, .ref w_machine, .int w_lineList, .int w_keptTop, .int w_keptSeed, .int w_canGoBack])), (w_turtles, .inr (5, [.ref t_parts, .ref t_dots, .int t_told, .ref t_start, .ref t_goal, .ref t_keptParts, .ref t_keptDots, .int t_keptTold])), (t_parts, .inl (cI, 56, .inl t_parts_v))]) (w1 := []) hP hD [] [0, 1, 2] rfl rfl (by decide) (by decide) hk1 hFc hP1 hD1
  subst e9
  clear hP1 hD1 hK1 hvm hz1 hk1 hFc hKc hDc hPc
  subst ht
  generalize t9.heap = H at hP hS ⊢
  have hP : va_P (dC, dI) classes [(hw, .inr (0, [.ref w_heap, .ref w_names, .ref w_procedures, .ref w_turtles, .ref w_output, .ref w_reader, .ref w_line, .ref w_deeds, .ref w_machine, .int w_lineList, .int w_keptTop, .int w_keptSeed, .int w_canGoBack])), (w_turtles, .inr (5, [.ref t_parts, .ref t_dots, .int t_told, .ref t_start, .ref t_goal, .ref t_keptParts, .ref t_keptDots, .int t_keptTold])), (t_parts, .inl (cI, 56, .inl t_parts_v))] H := hP
  have hD : va_D A [(hw, .inr (0, [.ref w_heap, .ref w_names, .ref w_procedures, .ref w_turtles, .ref w_output, .ref w_reader, .ref w_line, .ref w_deeds, .ref w_machine, .int w_lineList, .int w_keptTop, .int w_keptSeed, .int w_canGoBack])), (w_turtles, .inr (5, [.ref t_parts, .ref t_dots, .int t_told, .ref t_start, .ref t_goal, .ref t_keptParts, .ref t_keptDots, .int t_keptTold])), (t_parts, .inl (cI, 56, .inl t_parts_v))] := hD
  refine lv_if_eq (tgt := 25) hx hb d_World_place_4 (by decide) (fun c_1 => ?_) (fun c_1 => ?_)
  · exact absurd c_1 (hxt)
  · refine lv_iload_n hx hb d_World_place_7 rfl (lv_at hl 2 rfl) ?_
    refine lv_if_lt (tgt := 25) hx hb d_World_place_8 (by decide) (fun c_2 => ?_) (fun c_2 => ?_)
    · exact absurd c_2 (hb0)
    · refine lv_iload_n hx hb d_World_place_11 rfl (lv_at hl 2 rfl) ?_
      refine lv_iconst (v := 1) hx hb d_World_place_12 (by decide) ?_
      refine lv_icmp_gt (tgt := 25) hx hb d_World_place_13 (by decide) (fun c_3 => ?_) (fun c_3 => ?_)
      · exact absurd c_3 (hb1)
      · refine lv_iload_n hx hb d_World_place_16 rfl (lv_at hl 3 rfl) ?_
        refine lv_if_lt (tgt := 25) hx hb d_World_place_17 (by decide) (fun c_4 => ?_) (fun c_4 => ?_)
        · exact absurd c_4 (hd0)
        · refine lv_iload_n hx hb d_World_place_20 rfl (lv_at hl 3 rfl) ?_
          refine lv_iconst (v := 1) hx hb d_World_place_21 (by decide) ?_
          refine lv_icmp_le (tgt := 33) hx hb d_World_place_22 (by decide) (fun c_5 => ?_) (fun c_5 => ?_)
          · refine lv_aload_n hx hb d_World_place_33 rfl (lv_at hl 0 rfl) ?_
            refine va_get (D := (dC, dI)) (ci := 0) (v := .ref w_turtles) (C := R_World) (T := F_World) (N := 13) hx hb htt iw_World hown hK hP 0 rfl rfl 3 (by decide) (htt _ lk_World_40) (fun _ h9 => h9) rfl d_World_place_34 ?_
            refine lv_iload_n hx hb d_World_place_37 rfl (lv_at hl 1 rfl) ?_
            refine lv_iconst (v := 2) hx hb d_World_place_38 (by decide) ?_
            refine lv_iload_n hx hb d_World_place_39 rfl (lv_at hl 2 rfl) ?_
            refine lv_imul hx hb d_World_place_40 ?_
            refine lv_iload_n hx hb d_World_place_41 rfl (lv_at hl 3 rfl) ?_
            refine lv_iadd hx hb d_World_place_42 ?_
            have hPc := hP.sub (ws' := [(w_turtles, .inr (5, [.ref t_parts, .ref t_dots, .int t_told, .ref t_start, .ref t_goal, .ref t_keptParts, .ref t_keptDots, .int t_keptTold])), (t_parts, .inl (cI, 56, .inl t_parts_v))]) [1, 2] rfl
            have hDc := hD.sub (ws' := [(w_turtles, .inr (5, [.ref t_parts, .ref t_dots, .int t_told, .ref t_start, .ref t_goal, .ref t_keptParts, .ref t_keptDots, .int t_keptTold])), (t_parts, .inl (cI, 56, .inl t_parts_v))]) [1, 2] (by decide) rfl
            have hKc := hK.sub (tys' := [(cI, .int)]) [0] rfl
            have hFc := va_free (wc := [(w_turtles, .inr (5, [.ref t_parts, .ref t_dots, .int t_told, .ref t_start, .ref t_goal, .ref t_keptParts, .ref t_keptDots, .int t_keptTold])), (t_parts, .inl (cI, 56, .inl t_parts_v))]) hD hS hA [1, 2] rfl
            refine va_calli (va_runV (As := [.int a, .int ((2 * b) + d)]) (rest := []) ⟨hx, hb, hml, hown, hts⟩ (c_Turtles_part l dC dI H.size w_turtles t_parts t_dots t_start t_goal t_keptParts t_keptDots cI t_told t_keptTold t_parts_v a ((2 * b) + d)) (cwV 2 hts (tw_GV tw_cons cw_Turtles_part lk_World_192 in_Turtles_part sel_Turtles_part ini_Turtles) rfl rfl rfl (by decide +kernel) ⟨Nat.le_of_ble_eq_true rfl, Nat.le_of_ble_eq_true rfl⟩) ⟨fun a U g mk q => by obtain ⟨q0, q1, qP, qK, qD⟩ := q; exact ⟨q0, q1, qP, va_K.moved (u := U) (U := U.calling g mk a) (Vm.Alike.refl U.vm) qK, qD⟩, va_recv hKc hPc (ci := 5) (q0 := 0) rfl rfl, fun U hU hW => ⟨rfl, by rw [hU], by rw [hU]; exact hPc, va_K.moved hW.alike hKc, hDc.weaken (fun _ _ _ _ => trivial)⟩⟩ rfl rfl hl.1 rfl (lv_room (Nat.le_of_ble_eq_true rfl)) d_World_place_43 ⟨Nat.le_of_ble_eq_true rfl, Nat.le_of_ble_eq_true rfl⟩) hS (fun q _ h => hFc q h) hFc (fun r9 u9 t9 H1 locs ht hvm e9 hB hz1 hk1 hS => ?_)
            obtain ⟨hP1, hK1, hD1⟩ := hB
            rw [ht] at hP1
            obtain ⟨hP, hD⟩ := va_join (wr := [(hw, .inr (0, [.ref w_heap, .ref w_names, .ref w_procedures, .ref w_turtles, .ref w_output, .ref w_reader, .ref w_line, .ref w_deeds, .ref w_machine, .int w_lineList, .int w_keptTop, .int w_keptSeed, .int w_canGoBack]))]) (w1 := [(w_turtles, .inr (5, [.ref t_parts, .ref t_dots, .int t_told, .ref t_start, .ref t_goal, .ref t_keptParts, .ref t_keptDots, .int t_keptTold])), (t_parts, .inl (cI, 56, .inl t_parts_v))]) hP hD [1, 2] [0] rfl rfl (by decide) (by decide) hk1 hFc hP1 hD1
            subst e9
            clear hP1 hD1 hK1 hvm hz1 hk1 hFc hKc hDc hPc
            subst ht
            generalize t9.heap = H at hP hS ⊢
            have hP : va_P (dC, dI) classes [(hw, .inr (0, [.ref w_heap, .ref w_names, .ref w_procedures, .ref w_turtles, .ref w_output, .ref w_reader, .ref w_line, .ref w_deeds, .ref w_machine, .int w_lineList, .int w_keptTop, .int w_keptSeed, .int w_canGoBack])), (w_turtles, .inr (5, [.ref t_parts, .ref t_dots, .int t_told, .ref t_start, .ref t_goal, .ref t_keptParts, .ref t_keptDots, .int t_keptTold])), (t_parts, .inl (cI, 56, .inl t_parts_v))] H := hP
            have hD : va_D A [(hw, .inr (0, [.ref w_heap, .ref w_names, .ref w_procedures, .ref w_turtles, .ref w_output, .ref w_reader, .ref w_line, .ref w_deeds, .ref w_machine, .int w_lineList, .int w_keptTop, .int w_keptSeed, .int w_canGoBack])), (w_turtles, .inr (5, [.ref t_parts, .ref t_dots, .int t_told, .ref t_start, .ref t_goal, .ref t_keptParts, .ref t_keptDots, .int t_keptTold])), (t_parts, .inl (cI, 56, .inl t_parts_v))] := hD
            have hP9 := hP.sub (ws' := [(hw, .inr (0, [.ref w_heap, .ref w_names, .ref w_procedures, .ref w_turtles, .ref w_output, .ref w_reader, .ref w_line, .ref w_deeds, .ref w_machine, .int w_lineList, .int w_keptTop, .int w_keptSeed, .int w_canGoBack])), (w_turtles, .inr (5, [.ref t_parts, .ref t_dots, .int t_told, .ref t_start, .ref t_goal, .ref t_keptParts, .ref t_keptDots, .int t_keptTold])), (t_parts, .inl (cI, 56, .inl t_parts_v))]) [0, 1, 2] rfl
            have hD9 := hD.sub (ws' := [(hw, .inr (0, [.ref w_heap, .ref w_names, .ref w_procedures, .ref w_turtles, .ref w_output, .ref w_reader, .ref w_line, .ref w_deeds, .ref w_machine, .int w_lineList, .int w_keptTop, .int w_keptSeed, .int w_canGoBack])), (w_turtles, .inr (5, [.ref t_parts, .ref t_dots, .int t_told, .ref t_start, .ref t_goal, .ref t_keptParts, .ref t_keptDots, .int t_keptTold])), (t_parts, .inl (cI, 56, .inl t_parts_v))]) [0, 1, 2] (by decide) rfl
            exact W.iret (v := ts_part t_parts_v a ((2 * b) + d)) hx hb hr (fun t9 ht hW => ⟨⟨ts_part t_parts_v a ((2 * b) + d), (), rfl, by unfold m_World_place_r; rfl, by rw [ht]; exact hP9, va_K.moved hW.alike hK, hD9⟩, hS.F ht⟩) hS.2.2 d_World_place_46
          · exact absurd (hd1) c_5

def m_World_side_r (t_parts_v : Nat → Int32) (a : Int32) (b : Int32) (d : Int32) : Int32 := m_Turtles_sideOf_r (ts_part t_parts_v a (2 * b)) (ts_part t_parts_v a ((2 * b) + 1)) d
set_option maxHeartbeats 4000000 in
set_option maxRecDepth 100000 in
/-- side, of a turtle that is there -/
theorem c_World_side_ok (l : Launch) (dC : Nat → ClassId) (dI : Nat → Nat → Nat) (sz : Nat) (hw : Nat) (w_heap : Nat) (w_names : Nat) (w_procedures : Nat) (w_turtles : Nat) (w_output : Nat) (w_reader : Nat) (w_line : Nat) (w_deeds : Nat) (w_machine : Nat) (w_lineList : Int32) (w_keptTop : Int32) (w_keptSeed : Int32) (w_canGoBack : Int32) (t_parts : Nat) (t_dots : Nat) (t_told : Int32) (t_start : Nat) (t_goal : Nat) (t_keptParts : Nat) (t_keptDots : Nat) (t_keptTold : Int32) (cI : ClassId) (t_parts_v : Nat → Int32) (a : Int32) (b : Int32) (d : Int32) (hxt : ¬ ts_exists a = 0) (hb0 : ¬ b < 0) (hb1 : b ≤ 1) : Met l y_World_side w_World_side ({ frames := 2, cells := 0, slots := 0, locals := 51 }) (va_Pc [.ref hw, .int a, .int b, .int d] (fun U => U.heap.size = sz ∧ va_P (dC, dI) classes [(hw, .inr (0, [.ref w_heap, .ref w_names, .ref w_procedures, .ref w_turtles, .ref w_output, .ref w_reader, .ref w_line, .ref w_deeds, .ref w_machine, .int w_lineList, .int w_keptTop, .int w_keptSeed, .int w_canGoBack])), (w_turtles, .inr (5, [.ref t_parts, .ref t_dots, .int t_told, .ref t_start, .ref t_goal, .ref t_keptParts, .ref t_keptDots, .int t_keptTold])), (t_parts, .inl (cI, 56, .inl t_parts_v))] U.heap ∧ va_K (dC, dI) classes [(cI, .int)] U ∧ va_D (fun _ => True) [(hw, .inr (0, [.ref w_heap, .ref w_names, .ref w_procedures, .ref w_turtles, .ref w_output, .ref w_reader, .ref w_line, .ref w_deeds, .ref w_machine, .int w_lineList, .int w_keptTop, .int w_keptSeed, .int w_canGoBack])), (w_turtles, .inr (5, [.ref t_parts, .ref t_dots, .int t_told, .ref t_start, .ref t_goal, .ref t_keptParts, .ref t_keptDots, .int t_keptTold])), (t_parts, .inl (cI, 56, .inl t_parts_v))])) (va_Qi (fun (r : Int32) (_ : Unit) => r = m_World_side_r t_parts_v a b d) (fun (_ : Unit) t => va_P (dC, dI) classes [(hw, .inr (0, [.ref w_heap, .ref w_names, .ref w_procedures, .ref w_turtles, .ref w_output, .ref w_reader, .ref w_line, .ref w_deeds, .ref w_machine, .int w_lineList, .int w_keptTop, .int w_keptSeed, .int w_canGoBack])), (w_turtles, .inr (5, [.ref t_parts, .ref t_dots, .int t_told, .ref t_start, .ref t_goal, .ref t_keptParts, .ref t_keptDots, .int t_keptTold])), (t_parts, .inl (cI, 56, .inl t_parts_v))] t.heap ∧ va_K (dC, dI) classes [(cI, .int)] t ∧ va_D (va_A [(hw, .inr (0, [.ref w_heap, .ref w_names, .ref w_procedures, .ref w_turtles, .ref w_output, .ref w_reader, .ref w_line, .ref w_deeds, .ref w_machine, .int w_lineList, .int w_keptTop, .int w_keptSeed, .int w_canGoBack])), (w_turtles, .inr (5, [.ref t_parts, .ref t_dots, .int t_told, .ref t_start, .ref t_goal, .ref t_keptParts, .ref t_keptDots, .int t_keptTold])), (t_parts, .inl (cI, 56, .inl t_parts_v))] sz) [(hw, .inr (0, [.ref w_heap, .ref w_names, .ref w_procedures, .ref w_turtles, .ref w_output, .ref w_reader, .ref w_line, .ref w_deeds, .ref w_machine, .int w_lineList, .int w_keptTop, .int w_keptSeed, .int w_canGoBack])), (w_turtles, .inr (5, [.ref t_parts, .ref t_dots, .int t_told, .ref t_start, .ref t_goal, .ref t_keptParts, .ref t_keptDots, .int t_keptTold])), (t_parts, .inl (cI, 56, .inl t_parts_v))]) (va_A [(hw, .inr (0, [.ref w_heap, .ref w_names, .ref w_procedures, .ref w_turtles, .ref w_output, .ref w_reader, .ref w_line, .ref w_deeds, .ref w_machine, .int w_lineList, .int w_keptTop, .int w_keptSeed, .int w_canGoBack])), (w_turtles, .inr (5, [.ref t_parts, .ref t_dots, .int t_told, .ref t_start, .ref t_goal, .ref t_keptParts, .ref t_keptDots, .int t_keptTold])), (t_parts, .inl (cI, 56, .inl t_parts_v))] sz)) 0 0 (va_A [(hw, .inr (0, [.ref w_heap, .ref w_names, .ref w_procedures, .ref w_turtles, .ref w_output, .ref w_reader, .ref w_line, .ref w_deeds, .ref w_machine, .int w_lineList, .int w_keptTop, .int w_keptSeed, .int w_canGoBack])), (w_turtles, .inr (5, [.ref t_parts, .ref t_dots, .int t_told, .ref t_start, .ref t_goal, .ref t_keptParts, .ref t_keptDots, .int t_keptTold])), (t_parts, .inl (cI, 56, .inl t_parts_v))] sz) := by
  refine Met.ofW (cc := b_World_side) (maxL := 4) (ret := (some .int)) (by decide) rfl ?_
  intro p e s m args below meth c s₁ B hml hv
  obtain ⟨rfl, hsz, hP, hK, hD0⟩ := hv
  have hx := B.exec
  have hb := B.bytes
  have hr := B.returns
  have hts := atoms_spec (ws := w_World_side) B.pre
  have htt : ∀ w ∈ tw_T, w.before _ s = true := fun w h => hts w (List.mem_cons_of_mem _ h)
  have hown : s.vm.findClass R_World = some m.cls := findClass_of_methodNamed B.named
  have hlocks := B.notSynchronized
  subst hsz
  have hD := hD0.self (sz := s.heap.size)
  generalize hAe : va_A [(hw, .inr (0, [.ref w_heap, .ref w_names, .ref w_procedures, .ref w_turtles, .ref w_output, .ref w_reader, .ref w_line, .ref w_deeds, .ref w_machine, .int w_lineList, .int w_keptTop, .int w_keptSeed, .int w_canGoBack])), (w_turtles, .inr (5, [.ref t_parts, .ref t_dots, .int t_told, .ref t_start, .ref t_goal, .ref t_keptParts, .ref t_keptDots, .int t_keptTold])), (t_parts, .inl (cI, 56, .inl t_parts_v))] s.heap.size = A at hD ⊢
  have hA : ∀ q : Nat, s.heap.size ≤ q → A q := fun q h => by rw [← hAe]; exact Or.inr h
  have hS : va_S A s.heap s.heap [] := va_S.rf
  have hP : va_P (dC, dI) classes [(hw, .inr (0, [.ref w_heap, .ref w_names, .ref w_procedures, .ref w_turtles, .ref w_output, .ref w_reader, .ref w_line, .ref w_deeds, .ref w_machine, .int w_lineList, .int w_keptTop, .int w_keptSeed, .int w_canGoBack])), (w_turtles, .inr (5, [.ref t_parts, .ref t_dots, .int t_told, .ref t_start, .ref t_goal, .ref t_keptParts, .ref t_keptDots, .int t_keptTold])), (t_parts, .inl (cI, 56, .inl t_parts_v))] s.heap := hP
  have hl := lv_entry ([.ref hw, .int a, .int b, .int d]) (n := 4) (Nat.le_of_ble_eq_true rfl)
  rw [lg_entry_eq]
  generalize (lg_sl ([.ref hw, .int a, .int b, .int d]) ++ List.replicate (4 - (lg_sl ([.ref hw, .int a, .int b, .int d])).length) Slot.unset).toArray = ls at hl ⊢
  have hl : lv_has ls 4 [(0, .ref hw), (1, .int a), (2, .int b), (3, .int d)] := hl
  refine lv_iload_n hx hb d_World_side_0 rfl (lv_at hl 1 rfl) ?_
  have hPc := hP.sub (ws' := []) [] rfl
  have hDc := hD.sub (ws' := []) [] (by decide) rfl
  have hKc := hK.sub (tys' := []) [] rfl
  have hFc := va_free (wc := []) hD hS hA [] rfl
  refine va_calli (va_runS (As := [.int a]) (rest := []) ⟨hx, hb, hml, hown, hts⟩ (c_Turtles_exists l dC dI s.heap.size a) (va_cwS 1 hts (tw_GS tw_cons cw_Turtles_exists lk_World_186 st_Turtles_exists ini_Turtles) rfl rfl rfl (by decide +kernel) ⟨Nat.le_of_ble_eq_true rfl, Nat.le_of_ble_eq_true rfl⟩) ⟨fun a U g mk q => by obtain ⟨q0, q1, qP, qK, qD⟩ := q; exact ⟨q0, q1, qP, va_K.moved (u := U) (U := U.calling g mk a) (Vm.Alike.refl U.vm) qK, qD⟩, fun U hU hW => ⟨rfl, by rw [hU], by rw [hU]; exact hPc, va_K.moved hW.alike hKc, hDc.weaken (fun _ _ _ _ => trivial)⟩⟩ rfl rfl hl.1 rfl (lv_room (Nat.le_of_ble_eq_true rfl)) d_World_side_1 ⟨Nat.le_of_ble_eq_true rfl, Nat.le_of_ble_eq_true rfl⟩) hS (fun q _ h => hFc q h) hFc (fun r9 u9 t9 H1 locs ht hvm e9 hB hz1 hk1 hS => ?_)
  obtain ⟨hP1, hK1, hD1⟩ := hB
  rw [ht] at hP1
  obtain ⟨hP, hD⟩ := va_join (wr := [(hw, .inr (0, [.ref w_heap, .ref w_names, .ref w_procedures, .ref w_turtles, .ref w_output, .ref w_reader, .ref w_line, .ref w_deeds, .ref w_machine, .int w_lineList, .int w_keptTop, .int w_keptSeed, .int w_canGoBack])), (w_turtles, .inr (5, [.ref t_parts, .ref t_dots, .int t_told, .ref t_start, .ref t_goal, .ref t_keptParts, .ref t_keptDots, .int t_keptTold])), (t_parts, .inl (cI, 56, .inl t_parts_v))]) (w1 := []) hP hD [] [0, 1, 2] rfl rfl (by decide) (by decide) hk1 hFc hP1 hD1
  subst e9
  clear hP1 hD1 hK1 hvm hz1 hk1 hFc hKc hDc hPc
  subst ht
  generalize t9.heap = H at hP hS ⊢
  have hP : va_P (dC, dI) classes [(hw, .inr (0, [.ref w_heap, .ref w_names, .ref w_procedures, .ref w_turtles, .ref w_output, .ref w_reader, .ref w_line, .ref w_deeds, .ref w_machine, .int w_lineList, .int w_keptTop, .int w_keptSeed, .int w_canGoBack])), (w_turtles, .inr (5, [.ref t_parts, .ref t_dots, .int t_told, .ref t_start, .ref t_goal, .ref t_keptParts, .ref t_keptDots, .int t_keptTold])), (t_parts, .inl (cI, 56, .inl t_parts_v))] H := hP
  have hD : va_D A [(hw, .inr (0, [.ref w_heap, .ref w_names, .ref w_procedures, .ref w_turtles, .ref w_output, .ref w_reader, .ref w_line, .ref w_deeds, .ref w_machine, .int w_lineList, .int w_keptTop, .int w_keptSeed, .int w_canGoBack])), (w_turtles, .inr (5, [.ref t_parts, .ref t_dots, .int t_told, .ref t_start, .ref t_goal, .ref t_keptParts, .ref t_keptDots, .int t_keptTold])), (t_parts, .inl (cI, 56, .inl t_parts_v))] := hD
  refine lv_if_eq (tgt := 16) hx hb d_World_side_4 (by decide) (fun c_1 => ?_) (fun c_1 => ?_)
  · exact absurd c_1 (hxt)
  · refine lv_iload_n hx hb d_World_side_7 rfl (lv_at hl 2 rfl) ?_
    refine lv_if_lt (tgt := 16) hx hb d_World_side_8 (by decide) (fun c_2 => ?_) (fun c_2 => ?_)
    · exact absurd c_2 (hb0)
    · refine lv_iload_n hx hb d_World_side_11 rfl (lv_at hl 2 rfl) ?_
      refine lv_iconst (v := 1) hx hb d_World_side_12 (by decide) ?_
      refine lv_icmp_le (tgt := 24) hx hb d_World_side_13 (by decide) (fun c_3 => ?_) (fun c_3 => ?_)
      · refine lv_aload_n hx hb d_World_side_24 rfl (lv_at hl 0 rfl) ?_
        refine va_get (D := (dC, dI)) (ci := 0) (v := .ref w_turtles) (C := R_World) (T := F_World) (N := 13) hx hb htt iw_World hown hK hP 0 rfl rfl 3 (by decide) (htt _ lk_World_40) (fun _ h9 => h9) rfl d_World_side_25 ?_
        refine lv_iload_n hx hb d_World_side_28 rfl (lv_at hl 1 rfl) ?_
        refine lv_iconst (v := 2) hx hb d_World_side_29 (by decide) ?_
        refine lv_iload_n hx hb d_World_side_30 rfl (lv_at hl 2 rfl) ?_
        refine lv_imul hx hb d_World_side_31 ?_
        have hPc := hP.sub (ws' := [(w_turtles, .inr (5, [.ref t_parts, .ref t_dots, .int t_told, .ref t_start, .ref t_goal, .ref t_keptParts, .ref t_keptDots, .int t_keptTold])), (t_parts, .inl (cI, 56, .inl t_parts_v))]) [1, 2] rfl
        have hDc := hD.sub (ws' := [(w_turtles, .inr (5, [.ref t_parts, .ref t_dots, .int t_told, .ref t_start, .ref t_goal, .ref t_keptParts, .ref t_keptDots, .int t_keptTold])), (t_parts, .inl (cI, 56, .inl t_parts_v))]) [1, 2] (by decide) rfl
        have hKc := hK.sub (tys' := [(cI, .int)]) [0] rfl
        have hFc := va_free (wc := [(w_turtles, .inr (5, [.ref t_parts, .ref t_dots, .int t_told, .ref t_start, .ref t_goal, .ref t_keptParts, .ref t_keptDots, .int t_keptTold])), (t_parts, .inl (cI, 56, .inl t_parts_v))]) hD hS hA [1, 2] rfl
        refine va_calli (va_runV (As := [.int a, .int (2 * b)]) (rest := []) ⟨hx, hb, hml, hown, hts⟩ (c_Turtles_part l dC dI H.size w_turtles t_parts t_dots t_start t_goal t_keptParts t_keptDots cI t_told t_keptTold t_parts_v a (2 * b)) (cwV 2 hts (tw_GV tw_cons cw_Turtles_part lk_World_192 in_Turtles_part sel_Turtles_part ini_Turtles) rfl rfl rfl (by decide +kernel) ⟨Nat.le_of_ble_eq_true rfl, Nat.le_of_ble_eq_true rfl⟩) ⟨fun a U g mk q => by obtain ⟨q0, q1, qP, qK, qD⟩ := q; exact ⟨q0, q1, qP, va_K.moved (u := U) (U := U.calling g mk a) (Vm.Alike.refl U.vm) qK, qD⟩, va_recv hKc hPc (ci := 5) (q0 := 0) rfl rfl, fun U hU hW => ⟨rfl, by rw [hU], by rw [hU]; exact hPc, va_K.moved hW.alike hKc, hDc.weaken (fun _ _ _ _ => trivial)⟩⟩ rfl rfl hl.1 rfl (lv_room (Nat.le_of_ble_eq_true rfl)) d_World_side_32 ⟨Nat.le_of_ble_eq_true rfl, Nat.le_of_ble_eq_true rfl⟩) hS (fun q _ h => hFc q h) hFc (fun r9 u9 t9 H1 locs ht hvm e9 hB hz1 hk1 hS => ?_)
        obtain ⟨hP1, hK1, hD1⟩ := hB
        rw [ht] at hP1
        obtain ⟨hP, hD⟩ := va_join (wr := [(hw, .inr (0, [.ref w_heap, .ref w_names, .ref w_procedures, .ref w_turtles, .ref w_output, .ref w_reader, .ref w_line, .ref w_deeds, .ref w_machine, .int w_lineList, .int w_keptTop, .int w_keptSeed, .int w_canGoBack]))]) (w1 := [(w_turtles, .inr (5, [.ref t_parts, .ref t_dots, .int t_told, .ref t_start, .ref t_goal, .ref t_keptParts, .ref t_keptDots, .int t_keptTold])), (t_parts, .inl (cI, 56, .inl t_parts_v))]) hP hD [1, 2] [0] rfl rfl (by decide) (by decide) hk1 hFc hP1 hD1
        subst e9
        clear hP1 hD1 hK1 hvm hz1 hk1 hFc hKc hDc hPc
        subst ht
        generalize t9.heap = H at hP hS ⊢
        have hP : va_P (dC, dI) classes [(hw, .inr (0, [.ref w_heap, .ref w_names, .ref w_procedures, .ref w_turtles, .ref w_output, .ref w_reader, .ref w_line, .ref w_deeds, .ref w_machine, .int w_lineList, .int w_keptTop, .int w_keptSeed, .int w_canGoBack])), (w_turtles, .inr (5, [.ref t_parts, .ref t_dots, .int t_told, .ref t_start, .ref t_goal, .ref t_keptParts, .ref t_keptDots, .int t_keptTold])), (t_parts, .inl (cI, 56, .inl t_parts_v))] H := hP
        have hD : va_D A [(hw, .inr (0, [.ref w_heap, .ref w_names, .ref w_procedures, .ref w_turtles, .ref w_output, .ref w_reader, .ref w_line, .ref w_deeds, .ref w_machine, .int w_lineList, .int w_keptTop, .int w_keptSeed, .int w_canGoBack])), (w_turtles, .inr (5, [.ref t_parts, .ref t_dots, .int t_told, .ref t_start, .ref t_goal, .ref t_keptParts, .ref t_keptDots, .int t_keptTold])), (t_parts, .inl (cI, 56, .inl t_parts_v))] := hD
        refine lv_aload_n hx hb d_World_side_35 rfl (lv_at hl 0 rfl) ?_
        refine va_get (D := (dC, dI)) (ci := 0) (v := .ref w_turtles) (C := R_World) (T := F_World) (N := 13) hx hb htt iw_World hown hK hP 0 rfl rfl 3 (by decide) (htt _ lk_World_40) (fun _ h9 => h9) rfl d_World_side_36 ?_
        refine lv_iload_n hx hb d_World_side_39 rfl (lv_at hl 1 rfl) ?_
        refine lv_iconst (v := 2) hx hb d_World_side_40 (by decide) ?_
        refine lv_iload_n hx hb d_World_side_41 rfl (lv_at hl 2 rfl) ?_
        refine lv_imul hx hb d_World_side_42 ?_
        refine lv_iconst (v := 1) hx hb d_World_side_43 (by decide) ?_
        refine lv_iadd hx hb d_World_side_44 ?_
        have hPc := hP.sub (ws' := [(w_turtles, .inr (5, [.ref t_parts, .ref t_dots, .int t_told, .ref t_start, .ref t_goal, .ref t_keptParts, .ref t_keptDots, .int t_keptTold])), (t_parts, .inl (cI, 56, .inl t_parts_v))]) [1, 2] rfl
        have hDc := hD.sub (ws' := [(w_turtles, .inr (5, [.ref t_parts, .ref t_dots, .int t_told, .ref t_start, .ref t_goal, .ref t_keptParts, .ref t_keptDots, .int t_keptTold])), (t_parts, .inl (cI, 56, .inl t_parts_v))]) [1, 2] (by decide) rfl
        have hKc := hK.sub (tys' := [(cI, .int)]) [0] rfl
        have hFc := va_free (wc := [(w_turtles, .inr (5, [.ref t_parts, .ref t_dots, .int t_told, .ref t_start, .ref t_goal, .ref t_keptParts, .ref t_keptDots, .int t_keptTold])), (t_parts, .inl (cI, 56, .inl t_parts_v))]) hD hS hA [1, 2] rfl
        refine va_calli (va_runV (As := [.int a, .int ((2 * b) + 1)]) (rest := [.int (ts_part t_parts_v a (2 * b))]) ⟨hx, hb, hml, hown, hts⟩ (c_Turtles_part l dC dI H.size w_turtles t_parts t_dots t_start t_goal t_keptParts t_keptDots cI t_told t_keptTold t_parts_v a ((2 * b) + 1)) (cwV 2 hts (tw_GV tw_cons cw_Turtles_part lk_World_192 in_Turtles_part sel_Turtles_part ini_Turtles) rfl rfl rfl (by decide +kernel) ⟨Nat.le_of_ble_eq_true rfl, Nat.le_of_ble_eq_true rfl⟩) ⟨fun a U g mk q => by obtain ⟨q0, q1, qP, qK, qD⟩ := q; exact ⟨q0, q1, qP, va_K.moved (u := U) (U := U.calling g mk a) (Vm.Alike.refl U.vm) qK, qD⟩, va_recv hKc hPc (ci := 5) (q0 := 0) rfl rfl, fun U hU hW => ⟨rfl, by rw [hU], by rw [hU]; exact hPc, va_K.moved hW.alike hKc, hDc.weaken (fun _ _ _ _ => trivial)⟩⟩ rfl rfl hl.1 rfl (lv_room (Nat.le_of_ble_eq_true rfl)) d_World_side_45 ⟨Nat.le_of_ble_eq_true rfl, Nat.le_of_ble_eq_true rfl⟩) hS (fun q _ h => hFc q h) hFc (fun r9 u9 t9 H1 locs ht hvm e9 hB hz1 hk1 hS => ?_)
        obtain ⟨hP1, hK1, hD1⟩ := hB
        rw [ht] at hP1
        obtain ⟨hP, hD⟩ := va_join (wr := [(hw, .inr (0, [.ref w_heap, .ref w_names, .ref w_procedures, .ref w_turtles, .ref w_output, .ref w_reader, .ref w_line, .ref w_deeds, .ref w_machine, .int w_lineList, .int w_keptTop, .int w_keptSeed, .int w_canGoBack]))]) (w1 := [(w_turtles, .inr (5, [.ref t_parts, .ref t_dots, .int t_told, .ref t_start, .ref t_goal, .ref t_keptParts, .ref t_keptDots, .int t_keptTold])), (t_parts, .inl (cI, 56, .inl t_parts_v))]) hP hD [1, 2] [0] rfl rfl (by decide) (by decide) hk1 hFc hP1 hD1
        subst e9
        clear hP1 hD1 hK1 hvm hz1 hk1 hFc hKc hDc hPc
        subst ht
        generalize t9.heap = H at hP hS ⊢
        have hP : va_P (dC, dI) classes [(hw, .inr (0, [.ref w_heap, .ref w_names, .ref w_procedures, .ref w_turtles, .ref w_output, .ref w_reader, .ref w_line, .ref w_deeds, .ref w_machine, .int w_lineList, .int w_keptTop, .int w_keptSeed, .int w_canGoBack])), (w_turtles, .inr (5, [.ref t_parts, .ref t_dots, .int t_told, .ref t_start, .ref t_goal, .ref t_keptParts, .ref t_keptDots, .int t_keptTold])), (t_parts, .inl (cI, 56, .inl t_parts_v))] H := hP
        have hD : va_D A [(hw, .inr (0, [.ref w_heap, .ref w_names, .ref w_procedures, .ref w_turtles, .ref w_output, .ref w_reader, .ref w_line, .ref w_deeds, .ref w_machine, .int w_lineList, .int w_keptTop, .int w_keptSeed, .int w_canGoBack])), (w_turtles, .inr (5, [.ref t_parts, .ref t_dots, .int t_told, .ref t_start, .ref t_goal, .ref t_keptParts, .ref t_keptDots, .int t_keptTold])), (t_parts, .inl (cI, 56, .inl t_parts_v))] := hD
        refine lv_iload_n hx hb d_World_side_48 rfl (lv_at hl 3 rfl) ?_
        have hPc := hP.sub (ws' := []) [] rfl
        have hDc := hD.sub (ws' := []) [] (by decide) rfl
        have hKc := hK.sub (tys' := []) [] rfl
        have hFc := va_free (wc := []) hD hS hA [] rfl
        refine va_calli (va_runS (As := [.int (ts_part t_parts_v a (2 * b)), .int (ts_part t_parts_v a ((2 * b) + 1)), .int d]) (rest := []) ⟨hx, hb, hml, hown, hts⟩ (c_Turtles_sideOf l dC dI H.size (ts_part t_parts_v a (2 * b)) (ts_part t_parts_v a ((2 * b) + 1)) d) (va_cwS 3 hts (tw_GS tw_cons cw_Turtles_sideOf lk_World_196 st_Turtles_sideOf ini_Turtles) rfl rfl rfl (by decide +kernel) ⟨Nat.le_of_ble_eq_true rfl, Nat.le_of_ble_eq_true rfl⟩) ⟨fun a U g mk q => by obtain ⟨q0, q1, qP, qK, qD⟩ := q; exact ⟨q0, q1, qP, va_K.moved (u := U) (U := U.calling g mk a) (Vm.Alike.refl U.vm) qK, qD⟩, fun U hU hW => ⟨rfl, by rw [hU], by rw [hU]; exact hPc, va_K.moved hW.alike hKc, hDc.weaken (fun _ _ _ _ => trivial)⟩⟩ rfl rfl hl.1 rfl (lv_room (Nat.le_of_ble_eq_true rfl)) d_World_side_49 ⟨Nat.le_of_ble_eq_true rfl, Nat.le_of_ble_eq_true rfl⟩) hS (fun q _ h => hFc q h) hFc (fun r9 u9 t9 H1 locs ht hvm e9 hB hz1 hk1 hS => ?_)
        obtain ⟨hP1, hK1, hD1⟩ := hB
        rw [ht] at hP1
        obtain ⟨hP, hD⟩ := va_join (wr := [(hw, .inr (0, [.ref w_heap, .ref w_names, .ref w_procedures, .ref w_turtles, .ref w_output, .ref w_reader, .ref w_line, .ref w_deeds, .ref w_machine, .int w_lineList, .int w_keptTop, .int w_keptSeed, .int w_canGoBack])), (w_turtles, .inr (5, [.ref t_parts, .ref t_dots, .int t_told, .ref t_start, .ref t_goal, .ref t_keptParts, .ref t_keptDots, .int t_keptTold])), (t_parts, .inl (cI, 56, .inl t_parts_v))]) (w1 := []) hP hD [] [0, 1, 2] rfl rfl (by decide) (by decide) hk1 hFc hP1 hD1
        subst e9
        clear hP1 hD1 hK1 hvm hz1 hk1 hFc hKc hDc hPc
        subst ht
        generalize t9.heap = H at hP hS ⊢
        have hP : va_P (dC, dI) classes [(hw, .inr (0, [.ref w_heap, .ref w_names, .ref w_procedures, .ref w_turtles, .ref w_output, .ref w_reader, .ref w_line, .ref w_deeds, .ref w_machine, .int w_lineList, .int w_keptTop, .int w_keptSeed, .int w_canGoBack])), (w_turtles, .inr (5, [.ref t_parts, .ref t_dots, .int t_told, .ref t_start, .ref t_goal, .ref t_keptParts, .ref t_keptDots, .int t_keptTold])), (t_parts, .inl (cI, 56, .inl t_parts_v))] H := hP
        have hD : va_D A [(hw, .inr (0, [.ref w_heap, .ref w_names, .ref w_procedures, .ref w_turtles, .ref w_output, .ref w_reader, .ref w_line, .ref w_deeds, .ref w_machine, .int w_lineList, .int w_keptTop, .int w_keptSeed, .int w_canGoBack])), (w_turtles, .inr (5, [.ref t_parts, .ref t_dots, .int t_told, .ref t_start, .ref t_goal, .ref t_keptParts, .ref t_keptDots, .int t_keptTold])), (t_parts, .inl (cI, 56, .inl t_parts_v))] := hD
        have hP9 := hP.sub (ws' := [(hw, .inr (0, [.ref w_heap, .ref w_names, .ref w_procedures, .ref w_turtles, .ref w_output, .ref w_reader, .ref w_line, .ref w_deeds, .ref w_machine, .int w_lineList, .int w_keptTop, .int w_keptSeed, .int w_canGoBack])), (w_turtles, .inr (5, [.ref t_parts, .ref t_dots, .int t_told, .ref t_start, .ref t_goal, .ref t_keptParts, .ref t_keptDots, .int t_keptTold])), (t_parts, .inl (cI, 56, .inl t_parts_v))]) [0, 1, 2] rfl
        have hD9 := hD.sub (ws' := [(hw, .inr (0, [.ref w_heap, .ref w_names, .ref w_procedures, .ref w_turtles, .ref w_output, .ref w_reader, .ref w_line, .ref w_deeds, .ref w_machine, .int w_lineList, .int w_keptTop, .int w_keptSeed, .int w_canGoBack])), (w_turtles, .inr (5, [.ref t_parts, .ref t_dots, .int t_told, .ref t_start, .ref t_goal, .ref t_keptParts, .ref t_keptDots, .int t_keptTold])), (t_parts, .inl (cI, 56, .inl t_parts_v))]) [0, 1, 2] (by decide) rfl
        exact W.iret (v := m_Turtles_sideOf_r (ts_part t_parts_v a (2 * b)) (ts_part t_parts_v a ((2 * b) + 1)) d) hx hb hr (fun t9 ht hW => ⟨⟨m_Turtles_sideOf_r (ts_part t_parts_v a (2 * b)) (ts_part t_parts_v a ((2 * b) + 1)) d, (), rfl, by unfold m_World_side_r; rfl, by rw [ht]; exact hP9, va_K.moved hW.alike hK, hD9⟩, hS.F ht⟩) hS.2.2 d_World_side_52
      · exact absurd (hb1) c_3
