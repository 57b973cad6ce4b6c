theorem d_Turtles_setPart_0 : decode b_Turtles_setPart 0 = .ok (.aload_n 0, 1) := by decide +kernel
theorem d_Turtles_setPart_1 : decode b_Turtles_setPart 1 = .ok (.getfield 34, 3) := by decide +kernel
theorem d_Turtles_setPart_4 : decode b_Turtles_setPart 4 = .ok (.invokestatic 30, 3) := by decide +kernel
theorem d_Turtles_setPart_7 : decode b_Turtles_setPart 7 = .ok (.ifCond .eq 28, 3) := by decide +kernel
theorem d_Turtles_setPart_10 : decode b_Turtles_setPart 10 = .ok (.iload_n 1, 1) := by decide +kernel
theorem d_Turtles_setPart_11 : decode b_Turtles_setPart 11 = .ok (.ifCond .lt 24, 3) := by decide +kernel
theorem d_Turtles_setPart_14 : decode b_Turtles_setPart 14 = .ok (.iload_n 1, 1) := by decide +kernel
theorem d_Turtles_setPart_15 : decode b_Turtles_setPart 15 = .ok (.bipush 7, 2) := by decide +kernel
theorem d_Turtles_setPart_17 : decode b_Turtles_setPart 17 = .ok (.if_icmp .ge 18, 3) := by decide +kernel
theorem d_Turtles_setPart_20 : decode b_Turtles_setPart 20 = .ok (.aload_n 0, 1) := by decide +kernel
theorem d_Turtles_setPart_21 : decode b_Turtles_setPart 21 = .ok (.getfield 11, 3) := by decide +kernel
theorem d_Turtles_setPart_24 : decode b_Turtles_setPart 24 = .ok (.aload_n 0, 1) := by decide +kernel
theorem d_Turtles_setPart_25 : decode b_Turtles_setPart 25 = .ok (.getfield 34, 3) := by decide +kernel
theorem d_Turtles_setPart_28 : decode b_Turtles_setPart 28 = .ok (.bipush 7, 2) := by decide +kernel
theorem d_Turtles_setPart_30 : decode b_Turtles_setPart 30 = .ok (.imul, 1) := by decide +kernel
theorem d_Turtles_setPart_31 : decode b_Turtles_setPart 31 = .ok (.iload_n 1, 1) := by decide +kernel
theorem d_Turtles_setPart_32 : decode b_Turtles_setPart 32 = .ok (.iadd, 1) := by decide +kernel
theorem d_Turtles_setPart_33 : decode b_Turtles_setPart 33 = .ok (.iload_n 2, 1) := by decide +kernel
theorem d_Turtles_setPart_34 : decode b_Turtles_setPart 34 = .ok (.iastore, 1) := by decide +kernel
theorem d_Turtles_setPart_35 : decode b_Turtles_setPart 35 = .ok (.return_, 1) := by decide +kernel
theorem lk_Turtles_34 : Cond.fieldLink "TurtleWorld$Turtles" 34 "TurtleWorld$Turtles" "told" "I" ∈ tw_T := tw_i2 88 (by decide +kernel) (by decide +kernel)
theorem d_Turtles_colour_0 : decode b_Turtles_colour 0 = .ok (.aload_n 0, 1) := by decide +kernel
theorem d_Turtles_colour_1 : decode b_Turtles_colour 1 = .ok (.aload_n 0, 1) := by decide +kernel
theorem d_Turtles_colour_2 : decode b_Turtles_colour 2 = .ok (.getfield 34, 3) := by decide +kernel
theorem d_Turtles_colour_5 : decode b_Turtles_colour 5 = .ok (.iconst 5, 1) := by decide +kernel
theorem d_Turtles_colour_6 : decode b_Turtles_colour 6 = .ok (.invokevirtual 119, 3) := by decide +kernel
theorem d_Turtles_colour_9 : decode b_Turtles_colour 9 = .ok (.ireturn, 1) := by decide +kernel
theorem lk_Turtles_119 : Cond.methodLink "TurtleWorld$Turtles" 119 ⟨"TurtleWorld$Turtles", "part", "(II)I"⟩ ∈ tw_T := tw_i6 73 (by decide +kernel) (by decide +kernel)
theorem in_Turtles_part : Cond.instanceMethod ⟨"TurtleWorld$Turtles", "part", "(II)I"⟩ ∈ tw_T := tw_i6 74 (by decide +kernel) (by decide +kernel)
theorem sel_Turtles_part : Cond.selects "TurtleWorld$Turtles" ⟨"TurtleWorld$Turtles", "part", "(II)I"⟩ ⟨"TurtleWorld$Turtles", "part", "(II)I"⟩ ∈ tw_T := tw_i6 75 (by decide +kernel) (by decide +kernel)
theorem d_Turtles_lower_0 : decode b_Turtles_lower 0 = .ok (.aload_n 0, 1) := by decide +kernel
theorem d_Turtles_lower_1 : decode b_Turtles_lower 1 = .ok (.bipush 6, 2) := by decide +kernel
theorem d_Turtles_lower_3 : decode b_Turtles_lower 3 = .ok (.iload_n 1, 1) := by decide +kernel
theorem d_Turtles_lower_4 : decode b_Turtles_lower 4 = .ok (.ifCond .eq 7, 3) := by decide +kernel
theorem d_Turtles_lower_7 : decode b_Turtles_lower 7 = .ok (.iconst 1, 1) := by decide +kernel
theorem d_Turtles_lower_8 : decode b_Turtles_lower 8 = .ok (.goto 4, 3) := by decide +kernel
theorem d_Turtles_lower_11 : decode b_Turtles_lower 11 = .ok (.iconst 0, 1) := by decide +kernel
theorem d_Turtles_lower_12 : decode b_Turtles_lower 12 = .ok (.invokevirtual 122, 3) := by decide +kernel
theorem d_Turtles_lower_15 : decode b_Turtles_lower 15 = .ok (.ldc 83, 2) := by decide +kernel
theorem d_Turtles_lower_17 : decode b_Turtles_lower 17 = .ok (.ireturn, 1) := by decide +kernel
theorem lk_Turtles_122 : Cond.methodLink "TurtleWorld$Turtles" 122 ⟨"TurtleWorld$Turtles", "setPart", "(II)V"⟩ ∈ tw_T := tw_i6 81 (by decide +kernel) (by decide +kernel)
theorem in_Turtles_setPart : Cond.instanceMethod ⟨"TurtleWorld$Turtles", "setPart", "(II)V"⟩ ∈ tw_T := tw_i6 83 (by decide +kernel) (by decide +kernel)
theorem sel_Turtles_setPart : Cond.selects "TurtleWorld$Turtles" ⟨"TurtleWorld$Turtles", "setPart", "(II)V"⟩ ⟨"TurtleWorld$Turtles", "setPart", "(II)V"⟩ ∈ tw_T := tw_inS 58 (by decide +kernel) (by decide +kernel)
theorem lk_Turtles_83 : Cond.constant "TurtleWorld$Turtles" 83 (-2147483648) ∈ tw_T := tw_i6 68 (by decide +kernel) (by decide +kernel)
theorem d_Turtles_takePen_0 : decode b_Turtles_takePen 0 = .ok (.iload_n 1, 1) := by decide +kernel
theorem d_Turtles_takePen_1 : decode b_Turtles_takePen 1 = .ok (.ifCond .lt 9, 3) := by decide +kernel
theorem d_Turtles_takePen_4 : decode b_Turtles_takePen 4 = .ok (.iload_n 1, 1) := by decide +kernel
theorem d_Turtles_takePen_5 : decode b_Turtles_takePen 5 = .ok (.bipush 7, 2) := by decide +kernel
theorem d_Turtles_takePen_7 : decode b_Turtles_takePen 7 = .ok (.if_icmp .le 6, 3) := by decide +kernel
theorem d_Turtles_takePen_10 : decode b_Turtles_takePen 10 = .ok (.ldc 62, 2) := by decide +kernel
theorem d_Turtles_takePen_12 : decode b_Turtles_takePen 12 = .ok (.ireturn, 1) := by decide +kernel
theorem d_Turtles_takePen_13 : decode b_Turtles_takePen 13 = .ok (.aload_n 0, 1) := by decide +kernel
theorem d_Turtles_takePen_14 : decode b_Turtles_takePen 14 = .ok (.iconst 5, 1) := by decide +kernel
theorem d_Turtles_takePen_15 : decode b_Turtles_takePen 15 = .ok (.iload_n 1, 1) := by decide +kernel
theorem d_Turtles_takePen_16 : decode b_Turtles_takePen 16 = .ok (.invokevirtual 122, 3) := by decide +kernel
theorem d_Turtles_takePen_19 : decode b_Turtles_takePen 19 = .ok (.ldc 83, 2) := by decide +kernel
theorem d_Turtles_takePen_21 : decode b_Turtles_takePen 21 = .ok (.ireturn, 1) := by decide +kernel
theorem lk_Turtles_62 : Cond.constant "TurtleWorld$Turtles" 62 (-2147483645) ∈ tw_T := tw_i6 19 (by decide +kernel) (by decide +kernel)
theorem d_Turtles_putAt_0 : decode b_Turtles_putAt 0 = .ok (.iload_n 1, 1) := by decide +kernel
theorem d_Turtles_putAt_1 : decode b_Turtles_putAt 1 = .ok (.sipush (-30000), 3) := by decide +kernel
theorem d_Turtles_putAt_4 : decode b_Turtles_putAt 4 = .ok (.if_icmp .lt 24, 3) := by decide +kernel
theorem d_Turtles_putAt_7 : decode b_Turtles_putAt 7 = .ok (.iload_n 1, 1) := by decide +kernel
theorem d_Turtles_putAt_8 : decode b_Turtles_putAt 8 = .ok (.sipush 30000, 3) := by decide +kernel
theorem d_Turtles_putAt_11 : decode b_Turtles_putAt 11 = .ok (.if_icmp .gt 17, 3) := by decide +kernel
theorem d_Turtles_putAt_14 : decode b_Turtles_putAt 14 = .ok (.iload_n 2, 1) := by decide +kernel
theorem d_Turtles_putAt_15 : decode b_Turtles_putAt 15 = .ok (.sipush (-30000), 3) := by decide +kernel
theorem d_Turtles_putAt_18 : decode b_Turtles_putAt 18 = .ok (.if_icmp .lt 10, 3) := by decide +kernel
theorem d_Turtles_putAt_21 : decode b_Turtles_putAt 21 = .ok (.iload_n 2, 1) := by decide +kernel
theorem d_Turtles_putAt_22 : decode b_Turtles_putAt 22 = .ok (.sipush 30000, 3) := by decide +kernel
theorem d_Turtles_putAt_25 : decode b_Turtles_putAt 25 = .ok (.if_icmp .le 6, 3) := by decide +kernel
theorem d_Turtles_putAt_28 : decode b_Turtles_putAt 28 = .ok (.ldc 62, 2) := by decide +kernel
theorem d_Turtles_putAt_30 : decode b_Turtles_putAt 30 = .ok (.ireturn, 1) := by decide +kernel
theorem d_Turtles_putAt_31 : decode b_Turtles_putAt 31 = .ok (.aload_n 0, 1) := by decide +kernel
theorem d_Turtles_putAt_32 : decode b_Turtles_putAt 32 = .ok (.iconst 0, 1) := by decide +kernel
theorem d_Turtles_putAt_33 : decode b_Turtles_putAt 33 = .ok (.iconst 2, 1) := by decide +kernel
theorem d_Turtles_putAt_34 : decode b_Turtles_putAt 34 = .ok (.iload_n 1, 1) := by decide +kernel
theorem d_Turtles_putAt_35 : decode b_Turtles_putAt 35 = .ok (.imul, 1) := by decide +kernel
theorem d_Turtles_putAt_36 : decode b_Turtles_putAt 36 = .ok (.invokevirtual 122, 3) := by decide +kernel
theorem d_Turtles_putAt_39 : decode b_Turtles_putAt 39 = .ok (.aload_n 0, 1) := by decide +kernel
theorem d_Turtles_putAt_40 : decode b_Turtles_putAt 40 = .ok (.iconst 1, 1) := by decide +kernel
theorem d_Turtles_putAt_41 : decode b_Turtles_putAt 41 = .ok (.iconst 0, 1) := by decide +kernel
theorem d_Turtles_putAt_42 : decode b_Turtles_putAt 42 = .ok (.invokevirtual 122, 3) := by decide +kernel
theorem d_Turtles_putAt_45 : decode b_Turtles_putAt 45 = .ok (.aload_n 0, 1) := by decide +kernel
theorem d_Turtles_putAt_46 : decode b_Turtles_putAt 46 = .ok (.iconst 2, 1) := by decide +kernel
theorem d_Turtles_putAt_47 : decode b_Turtles_putAt 47 = .ok (.iconst 2, 1) := by decide +kernel
theorem d_Turtles_putAt_48 : decode b_Turtles_putAt 48 = .ok (.iload_n 2, 1) := by decide +kernel
theorem d_Turtles_putAt_49 : decode b_Turtles_putAt 49 = .ok (.imul, 1) := by decide +kernel
theorem d_Turtles_putAt_50 : decode b_Turtles_putAt 50 = .ok (.invokevirtual 122, 3) := by decide +kernel
theorem d_Turtles_putAt_53 : decode b_Turtles_putAt 53 = .ok (.aload_n 0, 1) := by decide +kernel
theorem d_Turtles_putAt_54 : decode b_Turtles_putAt 54 = .ok (.iconst 3, 1) := by decide +kernel
theorem d_Turtles_putAt_55 : decode b_Turtles_putAt 55 = .ok (.iconst 0, 1) := by decide +kernel
theorem d_Turtles_putAt_56 : decode b_Turtles_putAt 56 = .ok (.invokevirtual 122, 3) := by decide +kernel
theorem d_Turtles_putAt_59 : decode b_Turtles_putAt 59 = .ok (.ldc 83, 2) := by decide +kernel
theorem d_Turtles_putAt_61 : decode b_Turtles_putAt 61 = .ok (.ireturn, 1) := by decide +kernel
theorem d_Turtles_goHome_0 : decode b_Turtles_goHome 0 = .ok (.aload_n 0, 1) := by decide +kernel
theorem d_Turtles_goHome_1 : decode b_Turtles_goHome 1 = .ok (.iconst 4, 1) := by decide +kernel
theorem d_Turtles_goHome_2 : decode b_Turtles_goHome 2 = .ok (.iconst 0, 1) := by decide +kernel
theorem d_Turtles_goHome_3 : decode b_Turtles_goHome 3 = .ok (.invokevirtual 122, 3) := by decide +kernel
theorem d_Turtles_goHome_6 : decode b_Turtles_goHome 6 = .ok (.aload_n 0, 1) := by decide +kernel
theorem d_Turtles_goHome_7 : decode b_Turtles_goHome 7 = .ok (.iconst 0, 1) := by decide +kernel
theorem d_Turtles_goHome_8 : decode b_Turtles_goHome 8 = .ok (.iconst 0, 1) := by decide +kernel
theorem d_Turtles_goHome_9 : decode b_Turtles_goHome 9 = .ok (.invokevirtual 128, 3) := by decide +kernel
theorem d_Turtles_goHome_12 : decode b_Turtles_goHome 12 = .ok (.ireturn, 1) := by decide +kernel
theorem lk_Turtles_128 : Cond.methodLink "TurtleWorld$Turtles" 128 ⟨"TurtleWorld$Turtles", "putAt", "(II)I"⟩ ∈ tw_T := tw_i6 98 (by decide +kernel) (by decide +kernel)
theorem in_Turtles_putAt : Cond.instanceMethod ⟨"TurtleWorld$Turtles", "putAt", "(II)I"⟩ ∈ tw_T := tw_i6 99 (by decide +kernel) (by decide +kernel)
theorem sel_Turtles_putAt : Cond.selects "TurtleWorld$Turtles" ⟨"TurtleWorld$Turtles", "putAt", "(II)I"⟩ ⟨"TurtleWorld$Turtles", "putAt", "(II)I"⟩ ∈ tw_T := tw_i6 100 (by decide +kernel) (by decide +kernel)
theorem d_Turtles_mean_0 : decode b_Turtles_mean 0 = .ok (.iload_n 1, 1) := by decide +kernel
theorem d_Turtles_mean_1 : decode b_Turtles_mean 1 = .ok (.invokestatic 30, 3) := by decide +kernel
theorem d_Turtles_mean_4 : decode b_Turtles_mean 4 = .ok (.ifCond .ne 6, 3) := by decide +kernel
theorem d_Turtles_mean_7 : decode b_Turtles_mean 7 = .ok (.ldc 62, 2) := by decide +kernel
theorem d_Turtles_mean_9 : decode b_Turtles_mean 9 = .ok (.ireturn, 1) := by decide +kernel
theorem d_Turtles_mean_10 : decode b_Turtles_mean 10 = .ok (.aload_n 0, 1) := by decide +kernel
theorem d_Turtles_mean_11 : decode b_Turtles_mean 11 = .ok (.iload_n 1, 1) := by decide +kernel
theorem d_Turtles_mean_12 : decode b_Turtles_mean 12 = .ok (.putfield 34, 3) := by decide +kernel
theorem d_Turtles_mean_15 : decode b_Turtles_mean 15 = .ok (.ldc 83, 2) := by decide +kernel
theorem d_Turtles_mean_17 : decode b_Turtles_mean 17 = .ok (.ireturn, 1) := by decide +kernel
def m_Turtles_setPart_w1 (t_told : Int32) (parts : Nat → Int32) (k : Int32) (to : Int32) : Nat → Int32 := if ((ts_exists t_told)) = ((0 : Int32)) then parts else if k < ((0 : Int32)) then parts else if ((7 : Int32)) ≤ k then parts else upd parts ((t_told * 7) + k).toNatClampNeg to
set_option maxHeartbeats 4000000 in
set_option maxRecDepth 100000 in
/-- a part of the TOLD turtle is set -/
theorem c_Turtles_setPart (l : Launch) (dC : Nat → ClassId) (dI : Nat → Nat → Nat) (sz : Nat) (h0 : Nat) (t_parts : Nat) (t_dots : Nat) (t_told : Int32) (t_start : Nat) (t_goal : Nat) (t_keptParts : Nat) (t_keptDots : Nat) (t_keptTold : Int32) (cI : ClassId) (parts : Nat → Int32) (k : Int32) (to : Int32)  : Met l y_Turtles_setPart w_Turtles_setPart ({ frames := 1, cells := 0, slots := 0, locals := 20 }) (va_Pc [.ref h0, .int k, .int to] (fun U => U.heap.size = sz ∧ va_P (dC, dI) classes [(h0, .inr (5, [.ref t_parts, .ref t_dots, .int t_told, .ref t_start, .ref t_goal, .ref t_keptParts, .ref t_keptDots, .int t_keptTold])), (t_parts, .inl (cI, 56, .inl parts))] U.heap ∧ va_K (dC, dI) classes [(cI, .int)] U ∧ va_D (fun _ => True) [(h0, .inr (5, [.ref t_parts, .ref t_dots, .int t_told, .ref t_start, .ref t_goal, .ref t_keptParts, .ref t_keptDots, .int t_keptTold])), (t_parts, .inl (cI, 56, .inl parts))])) (va_Qv (fun (_ : Unit) => True) (fun (_ : Unit) t => va_P (dC, dI) classes [(h0, .inr (5, [.ref t_parts, .ref t_dots, .int t_told, .ref t_start, .ref t_goal, .ref t_keptParts, .ref t_keptDots, .int t_keptTold])), (t_parts, .inl (cI, 56, .inl (m_Turtles_setPart_w1 t_told parts k to)))] t.heap ∧ va_K (dC, dI) classes [(cI, .int)] t ∧ va_D (va_A [(h0, .inr (5, [.ref t_parts, .ref t_dots, .int t_told, .ref t_start, .ref t_goal, .ref t_keptParts, .ref t_keptDots, .int t_keptTold])), (t_parts, .inl (cI, 56, .inl parts))] sz) [(h0, .inr (5, [.ref t_parts, .ref t_dots, .int t_told, .ref t_start, .ref t_goal, .ref t_keptParts, .ref t_keptDots, .int t_keptTold])), (t_parts, .inl (cI, 56, .inl (m_Turtles_setPart_w1 t_told parts k to)))]) (va_A [(h0, .inr (5, [.ref t_parts, .ref t_dots, .int t_told, .ref t_start, .ref t_goal, .ref t_keptParts, .ref t_keptDots, .int t_keptTold])), (t_parts, .inl (cI, 56, .inl parts))] sz)) 0 0 (va_A [(h0, .inr (5, [.ref t_parts, .ref t_dots, .int t_told, .ref t_start, .ref t_goal, .ref t_keptParts, .ref t_keptDots, .int t_keptTold])), (t_parts, .inl (cI, 56, .inl parts))] sz) := by
  refine Met.ofW (cc := b_Turtles_setPart) (maxL := 3) (ret := none) (by decide) rfl ?_
  intro p e s m args below meth c s₁ B hml hv
  obtain ⟨rfl, hsz, hP, hK, hD0⟩ := hv
  have hx := B.exec
  have hb := B.bytes
  have hr := B.returns
  have hts := atoms_spec (ws := w_Turtles_setPart) B.pre
  have htt : ∀ w ∈ tw_T, w.before _ s = true := fun w h => hts w (List.mem_cons_of_mem _ h)
  have hown : s.vm.findClass R_Turtles = some m.cls := findClass_of_methodNamed B.named
  have hlocks := B.notSynchronized
  subst hsz
  have hD := hD0.self (sz := s.heap.size)
  generalize hAe : va_A [(h0, .inr (5, [.ref t_parts, .ref t_dots, .int t_told, .ref t_start, .ref t_goal, .ref t_keptParts, .ref t_keptDots, .int t_keptTold])), (t_parts, .inl (cI, 56, .inl parts))] s.heap.size = A at hD ⊢
  have hA : ∀ q : Nat, s.heap.size ≤ q → A q := fun q h => by rw [← hAe]; exact Or.inr h
  have hS : va_S A s.heap s.heap [] := va_S.rf
  have hP : va_P (dC, dI) classes [(h0, .inr (5, [.ref t_parts, .ref t_dots, .int t_told, .ref t_start, .ref t_goal, .ref t_keptParts, .ref t_keptDots, .int t_keptTold])), (t_parts, .inl (cI, 56, .inl parts))] s.heap := hP
  have hl := lv_entry ([.ref h0, .int k, .int to]) (n := 3) (Nat.le_of_ble_eq_true rfl)
  rw [lg_entry_eq]
  generalize (lg_sl ([.ref h0, .int k, .int to]) ++ List.replicate (3 - (lg_sl ([.ref h0, .int k, .int to])).length) Slot.unset).toArray = ls at hl ⊢
  have hl : lv_has ls 3 [(0, .ref h0), (1, .int k), (2, .int to)] := hl
  refine lv_aload_n hx hb d_Turtles_setPart_0 rfl (lv_at hl 0 rfl) ?_
  refine va_get (D := (dC, dI)) (ci := 5) (v := .int t_told) (C := R_Turtles) (T := F_Turtles) (N := 8) hx hb htt iw_Turtles hown hK hP 0 rfl rfl 2 (by decide) (htt _ lk_Turtles_34) (fun _ h9 => h9) rfl d_Turtles_setPart_1 ?_
  have hPc := hP.sub (ws' := []) [] rfl
  have hDc := hD.sub (ws' := []) [] (by decide) rfl
  have hKc := hK.sub (tys' := []) [] rfl
  have hFc := va_free (wc := []) hD hS hA [] rfl
  refine va_calli (va_runS (As := [.int t_told]) (rest := []) ⟨hx, hb, hml, hown, hts⟩ (c_Turtles_exists l dC dI s.heap.size t_told) (va_cwS 1 hts (tw_GS tw_cons cw_Turtles_exists lk_Turtles_30 st_Turtles_exists ini_Turtles) rfl rfl rfl (by decide +kernel) ⟨Nat.le_of_ble_eq_true rfl, Nat.le_of_ble_eq_true rfl⟩) ⟨fun a U g mk q => by obtain ⟨q0, q1, qP, qK, qD⟩ := q; exact ⟨q0, q1, qP, va_K.moved (u := U) (U := U.calling g mk a) (Vm.Alike.refl U.vm) qK, qD⟩, fun U hU hW => ⟨rfl, by rw [hU], by rw [hU]; exact hPc, va_K.moved hW.alike hKc, hDc.weaken (fun _ _ _ _ => trivial)⟩⟩ rfl rfl hl.1 rfl (lv_room (Nat.le_of_ble_eq_true rfl)) d_Turtles_setPart_4 ⟨Nat.le_of_ble_eq_true rfl, Nat.le_of_ble_eq_true rfl⟩) hS (fun q _ h => hFc q h) hFc (fun r9 u9 t9 H1 locs ht hvm e9 hB hz1 hk1 hS => ?_)
  obtain ⟨hP1, hK1, hD1⟩ := hB
  rw [ht] at hP1
  obtain ⟨hP, hD⟩ := va_join (wr := [(h0, .inr (5, [.ref t_parts, .ref t_dots, .int t_told, .ref t_start, .ref t_goal, .ref t_keptParts, .ref t_keptDots, .int t_keptTold])), (t_parts, .inl (cI, 56, .inl parts))]) (w1 := []) hP hD [] [0, 1] rfl rfl (by decide) (by decide) hk1 hFc hP1 hD1
  subst e9
  clear hP1 hD1 hK1 hvm hz1 hk1 hFc hKc hDc hPc
  subst ht
  generalize t9.heap = H at hP hS ⊢
  have hP : va_P (dC, dI) classes [(h0, .inr (5, [.ref t_parts, .ref t_dots, .int t_told, .ref t_start, .ref t_goal, .ref t_keptParts, .ref t_keptDots, .int t_keptTold])), (t_parts, .inl (cI, 56, .inl parts))] H := hP
  have hD : va_D A [(h0, .inr (5, [.ref t_parts, .ref t_dots, .int t_told, .ref t_start, .ref t_goal, .ref t_keptParts, .ref t_keptDots, .int t_keptTold])), (t_parts, .inl (cI, 56, .inl parts))] := hD
  refine lv_if_eq (tgt := 35) hx hb d_Turtles_setPart_7 (by decide) (fun c_1 => ?_) (fun c_1 => ?_)
  · have hP9 := hP.sub (ws' := [(h0, .inr (5, [.ref t_parts, .ref t_dots, .int t_told, .ref t_start, .ref t_goal, .ref t_keptParts, .ref t_keptDots, .int t_keptTold])), (t_parts, .inl (cI, 56, .inl parts))]) [0, 1] rfl
    have hD9 := hD.sub (ws' := [(h0, .inr (5, [.ref t_parts, .ref t_dots, .int t_told, .ref t_start, .ref t_goal, .ref t_keptParts, .ref t_keptDots, .int t_keptTold])), (t_parts, .inl (cI, 56, .inl parts))]) [0, 1] (by decide) rfl
    have eW : [(h0, .inr (5, [.ref t_parts, .ref t_dots, .int t_told, .ref t_start, .ref t_goal, .ref t_keptParts, .ref t_keptDots, .int t_keptTold])), (t_parts, .inl (cI, 56, .inl parts))] = ([(h0, .inr (5, [.ref t_parts, .ref t_dots, .int t_told, .ref t_start, .ref t_goal, .ref t_keptParts, .ref t_keptDots, .int t_keptTold])), (t_parts, .inl (cI, 56, .inl (m_Turtles_setPart_w1 t_told parts k to)))] : va_W) := by unfold m_Turtles_setPart_w1; simp only [if_pos c_1]
    rw [eW] at hP9 hD9
    exact W.vret hx hb hr (fun t9 ht hW => ⟨⟨(), rfl, trivial, by rw [ht]; exact hP9, va_K.moved hW.alike hK, hD9⟩, hS.F ht⟩) hS.2.2 d_Turtles_setPart_35
  · refine lv_iload_n hx hb d_Turtles_setPart_10 rfl (lv_at hl 1 rfl) ?_
    refine lv_if_lt (tgt := 35) hx hb d_Turtles_setPart_11 (by decide) (fun c_2 => ?_) (fun c_2 => ?_)
    · have hP9 := hP.sub (ws' := [(h0, .inr (5, [.ref t_parts, .ref t_dots, .int t_told, .ref t_start, .ref t_goal, .ref t_keptParts, .ref t_keptDots, .int t_keptTold])), (t_parts, .inl (cI, 56, .inl parts))]) [0, 1] rfl
      have hD9 := hD.sub (ws' := [(h0, .inr (5, [.ref t_parts, .ref t_dots, .int t_told, .ref t_start, .ref t_goal, .ref t_keptParts, .ref t_keptDots, .int t_keptTold])), (t_parts, .inl (cI, 56, .inl parts))]) [0, 1] (by decide) rfl
      have eW : [(h0, .inr (5, [.ref t_parts, .ref t_dots, .int t_told, .ref t_start, .ref t_goal, .ref t_keptParts, .ref t_keptDots, .int t_keptTold])), (t_parts, .inl (cI, 56, .inl parts))] = ([(h0, .inr (5, [.ref t_parts, .ref t_dots, .int t_told, .ref t_start, .ref t_goal, .ref t_keptParts, .ref t_keptDots, .int t_keptTold])), (t_parts, .inl (cI, 56, .inl (m_Turtles_setPart_w1 t_told parts k to)))] : va_W) := by unfold m_Turtles_setPart_w1; simp only [if_neg c_1, if_pos c_2]
      rw [eW] at hP9 hD9
      exact W.vret hx hb hr (fun t9 ht hW => ⟨⟨(), rfl, trivial, by rw [ht]; exact hP9, va_K.moved hW.alike hK, hD9⟩, hS.F ht⟩) hS.2.2 d_Turtles_setPart_35
    · refine lv_iload_n hx hb d_Turtles_setPart_14 rfl (lv_at hl 1 rfl) ?_
      refine lv_bipush (v := 7) hx hb d_Turtles_setPart_15 (by decide) ?_
      refine lv_icmp_ge (tgt := 35) hx hb d_Turtles_setPart_17 (by decide) (fun c_3 => ?_) (fun c_3 => ?_)
      · have hP9 := hP.sub (ws' := [(h0, .inr (5, [.ref t_parts, .ref t_dots, .int t_told, .ref t_start, .ref t_goal, .ref t_keptParts, .ref t_keptDots, .int t_keptTold])), (t_parts, .inl (cI, 56, .inl parts))]) [0, 1] rfl
        have hD9 := hD.sub (ws' := [(h0, .inr (5, [.ref t_parts, .ref t_dots, .int t_told, .ref t_start, .ref t_goal, .ref t_keptParts, .ref t_keptDots, .int t_keptTold])), (t_parts, .inl (cI, 56, .inl parts))]) [0, 1] (by decide) rfl
        have eW : [(h0, .inr (5, [.ref t_parts, .ref t_dots, .int t_told, .ref t_start, .ref t_goal, .ref t_keptParts, .ref t_keptDots, .int t_keptTold])), (t_parts, .inl (cI, 56, .inl parts))] = ([(h0, .inr (5, [.ref t_parts, .ref t_dots, .int t_told, .ref t_start, .ref t_goal, .ref t_keptParts, .ref t_keptDots, .int t_keptTold])), (t_parts, .inl (cI, 56, .inl (m_Turtles_setPart_w1 t_told parts k to)))] : va_W) := by unfold m_Turtles_setPart_w1; simp only [if_neg c_1, if_neg c_2, if_pos c_3]
        rw [eW] at hP9 hD9
        exact W.vret hx hb hr (fun t9 ht hW => ⟨⟨(), rfl, trivial, by rw [ht]; exact hP9, va_K.moved hW.alike hK, hD9⟩, hS.F ht⟩) hS.2.2 d_Turtles_setPart_35
      · refine lv_aload_n hx hb d_Turtles_setPart_20 rfl (lv_at hl 0 rfl) ?_
        refine va_get (D := (dC, dI)) (ci := 5) (v := .ref t_parts) (C := R_Turtles) (T := F_Turtles) (N := 8) hx hb htt iw_Turtles hown hK hP 0 rfl rfl 0 (by decide) (htt _ lk_Turtles_11) (fun _ h9 => h9) rfl d_Turtles_setPart_21 ?_
        refine lv_aload_n hx hb d_Turtles_setPart_24 rfl (lv_at hl 0 rfl) ?_
        refine va_get (D := (dC, dI)) (ci := 5) (v := .int t_told) (C := R_Turtles) (T := F_Turtles) (N := 8) hx hb htt iw_Turtles hown hK hP 0 rfl rfl 2 (by decide) (htt _ lk_Turtles_34) (fun _ h9 => h9) rfl d_Turtles_setPart_25 ?_
        refine lv_bipush (v := 7) hx hb d_Turtles_setPart_28 (by decide) ?_
        refine lv_imul hx hb d_Turtles_setPart_30 ?_
        refine lv_iload_n hx hb d_Turtles_setPart_31 rfl (lv_at hl 1 rfl) ?_
        refine lv_iadd hx hb d_Turtles_setPart_32 ?_
        refine lv_iload_n hx hb d_Turtles_setPart_33 rfl (lv_at hl 2 rfl) ?_
        have h_4 : vp_in ((t_told * 7) + k) 56 := ts_part_in c_1 c_2 c_3
        refine va_iast hx hb hK hP hD hS 1 0 rfl rfl h_4 d_Turtles_setPart_34 (fun H locs hP hD hS => ?_)
        have hP : va_P (dC, dI) classes [(h0, .inr (5, [.ref t_parts, .ref t_dots, .int t_told, .ref t_start, .ref t_goal, .ref t_keptParts, .ref t_keptDots, .int t_keptTold])), (t_parts, .inl (cI, 56, .inl (upd parts ((t_told * 7) + k).toNatClampNeg to)))] H := hP
        have hD : va_D A [(h0, .inr (5, [.ref t_parts, .ref t_dots, .int t_told, .ref t_start, .ref t_goal, .ref t_keptParts, .ref t_keptDots, .int t_keptTold])), (t_parts, .inl (cI, 56, .inl (upd parts ((t_told * 7) + k).toNatClampNeg to)))] := hD
        have hP9 := hP.sub (ws' := [(h0, .inr (5, [.ref t_parts, .ref t_dots, .int t_told, .ref t_start, .ref t_goal, .ref t_keptParts, .ref t_keptDots, .int t_keptTold])), (t_parts, .inl (cI, 56, .inl (upd parts ((t_told * 7) + k).toNatClampNeg to)))]) [0, 1] rfl
        have hD9 := hD.sub (ws' := [(h0, .inr (5, [.ref t_parts, .ref t_dots, .int t_told, .ref t_start, .ref t_goal, .ref t_keptParts, .ref t_keptDots, .int t_keptTold])), (t_parts, .inl (cI, 56, .inl (upd parts ((t_told * 7) + k).toNatClampNeg to)))]) [0, 1] (by decide) rfl
        have eW : [(h0, .inr (5, [.ref t_parts, .ref t_dots, .int t_told, .ref t_start, .ref t_goal, .ref t_keptParts, .ref t_keptDots, .int t_keptTold])), (t_parts, .inl (cI, 56, .inl (upd parts ((t_told * 7) + k).toNatClampNeg to)))] = ([(h0, .inr (5, [.ref t_parts, .ref t_dots, .int t_told, .ref t_start, .ref t_goal, .ref t_keptParts, .ref t_keptDots, .int t_keptTold])), (t_parts, .inl (cI, 56, .inl (m_Turtles_setPart_w1 t_told parts k to)))] : va_W) := by unfold m_Turtles_setPart_w1; simp only [if_neg c_1, if_neg c_2, if_neg c_3]
        rw [eW] at hP9 hD9
        exact W.vret hx hb hr (fun t9 ht hW => ⟨⟨(), rfl, trivial, by rw [ht]; exact hP9, va_K.moved hW.alike hK, hD9⟩, hS.F ht⟩) hS.2.2 d_Turtles_setPart_35

def m_Turtles_colour_r (t_told : Int32) (parts : Nat → Int32) : Int32 := ts_part parts t_told 5
set_option maxHeartbeats 4000000 in
set_option maxRecDepth 100000 in
theorem c_Turtles_colour (l : Launch) (dC : Nat → ClassId) (dI : Nat → Nat → Nat) (sz : Nat) (h0 : Nat) (t_parts : Nat) (t_dots : Nat) (t_told : Int32) (t_start : Nat) (t_goal : Nat) (t_keptParts : Nat) (t_keptDots : Nat) (t_keptTold : Int32) (cI : ClassId) (parts : Nat → Int32)  : Met l y_Turtles_colour w_Turtles_colour ({ frames := 2, cells := 0, slots := 0, locals := 42 }) (va_Pc [.ref h0] (fun U => U.heap.size = sz ∧ va_P (dC, dI) classes [(h0, .inr (5, [.ref t_parts, .ref t_dots, .int t_told, .ref t_start, .ref t_goal, .ref t_keptParts, .ref t_keptDots, .int t_keptTold])), (t_parts, .inl (cI, 56, .inl parts))] U.heap ∧ va_K (dC, dI) classes [(cI, .int)] U ∧ va_D (fun _ => True) [(h0, .inr (5, [.ref t_parts, .ref t_dots, .int t_told, .ref t_start, .ref t_goal, .ref t_keptParts, .ref t_keptDots, .int t_keptTold])), (t_parts, .inl (cI, 56, .inl parts))])) (va_Qi (fun (r : Int32) (_ : Unit) => r = m_Turtles_colour_r t_told parts) (fun (_ : Unit) t => va_P (dC, dI) classes [(h0, .inr (5, [.ref t_parts, .ref t_dots, .int t_told, .ref t_start, .ref t_goal, .ref t_keptParts, .ref t_keptDots, .int t_keptTold])), (t_parts, .inl (cI, 56, .inl parts))] t.heap ∧ va_K (dC, dI) classes [(cI, .int)] t ∧ va_D (va_A [(h0, .inr (5, [.ref t_parts, .ref t_dots, .int t_told, .ref t_start, .ref t_goal, .ref t_keptParts, .ref t_keptDots, .int t_keptTold])), (t_parts, .inl (cI, 56, .inl parts))] sz) [(h0, .inr (5, [.ref t_parts, .ref t_dots, .int t_told, .ref t_start, .ref t_goal, .ref t_keptParts, .ref t_keptDots, .int t_keptTold])), (t_parts, .inl (cI, 56, .inl parts))]) (va_A [(h0, .inr (5, [.ref t_parts, .ref t_dots, .int t_told, .ref t_start, .ref t_goal, .ref t_keptParts, .ref t_keptDots, .int t_keptTold])), (t_parts, .inl (cI, 56, .inl parts))] sz)) 0 0 (va_A [(h0, .inr (5, [.ref t_parts, .ref t_dots, .int t_told, .ref t_start, .ref t_goal, .ref t_keptParts, .ref t_keptDots, .int t_keptTold])), (t_parts, .inl (cI, 56, .inl parts))] sz) := by
  refine Met.ofW (cc := b_Turtles_colour) (maxL := 1) (ret := (some .int)) (by decide) rfl ?_
  intro p e s m args below meth c s₁ B hml hv
  obtain ⟨rfl, hsz, hP, hK, hD0⟩ := hv
  have hx := B.exec
  have hb := B.bytes
  have hr := B.returns
  have hts := atoms_spec (ws := w_Turtles_colour) B.pre
  have htt : ∀ w ∈ tw_T, w.before _ s = true := fun w h => hts w (List.mem_cons_of_mem _ h)
  have hown : s.vm.findClass R_Turtles = some m.cls := findClass_of_methodNamed B.named
  have hlocks := B.notSynchronized
  subst hsz
  have hD := hD0.self (sz := s.heap.size)
  generalize hAe : va_A [(h0, .inr (5, [.ref t_parts, .ref t_dots, .int t_told, .ref t_start, .ref t_goal, .ref t_keptParts, .ref t_keptDots, .int t_keptTold])), (t_parts, .inl (cI, 56, .inl parts))] s.heap.size = A at hD ⊢
  have hA : ∀ q : Nat, s.heap.size ≤ q → A q := fun q h => by rw [← hAe]; exact Or.inr h
  have hS : va_S A s.heap s.heap [] := va_S.rf
  have hP : va_P (dC, dI) classes [(h0, .inr (5, [.ref t_parts, .ref t_dots, .int t_told, .ref t_start, .ref t_goal, .ref t_keptParts, .ref t_keptDots, .int t_keptTold])), (t_parts, .inl (cI, 56, .inl parts))] s.heap := hP
  have hl := lv_entry ([.ref h0]) (n := 1) (Nat.le_of_ble_eq_true rfl)
  rw [lg_entry_eq]
  generalize (lg_sl ([.ref h0]) ++ List.replicate (1 - (lg_sl ([.ref h0])).length) Slot.unset).toArray = ls at hl ⊢
  have hl : lv_has ls 1 [(0, .ref h0)] := hl
  refine lv_aload_n hx hb d_Turtles_colour_0 rfl (lv_at hl 0 rfl) ?_
  refine lv_aload_n hx hb d_Turtles_colour_1 rfl (lv_at hl 0 rfl) ?_
  refine va_get (D := (dC, dI)) (ci := 5) (v := .int t_told) (C := R_Turtles) (T := F_Turtles) (N := 8) hx hb htt iw_Turtles hown hK hP 0 rfl rfl 2 (by decide) (htt _ lk_Turtles_34) (fun _ h9 => h9) rfl d_Turtles_colour_2 ?_
  refine lv_iconst (v := 5) hx hb d_Turtles_colour_5 (by decide) ?_
  have hPc := hP.sub (ws' := [(h0, .inr (5, [.ref t_parts, .ref t_dots, .int t_told, .ref t_start, .ref t_goal, .ref t_keptParts, .ref t_keptDots, .int t_keptTold])), (t_parts, .inl (cI, 56, .inl parts))]) [0, 1] rfl
  have hDc := hD.sub (ws' := [(h0, .inr (5, [.ref t_parts, .ref t_dots, .int t_told, .ref t_start, .ref t_goal, .ref t_keptParts, .ref t_keptDots, .int t_keptTold])), (t_parts, .inl (cI, 56, .inl parts))]) [0, 1] (by decide) rfl
  have hKc := hK.sub (tys' := [(cI, .int)]) [0] rfl
  have hFc := va_free (wc := [(h0, .inr (5, [.ref t_parts, .ref t_dots, .int t_told, .ref t_start, .ref t_goal, .ref t_keptParts, .ref t_keptDots, .int t_keptTold])), (t_parts, .inl (cI, 56, .inl parts))]) hD hS hA [0, 1] rfl
  refine va_calli (va_runV (As := [.int t_told, .int 5]) (rest := []) ⟨hx, hb, hml, hown, hts⟩ (c_Turtles_part l dC dI s.heap.size h0 t_parts t_dots t_start t_goal t_keptParts t_keptDots cI t_told t_keptTold parts t_told 5) (cwV 2 hts (tw_GV tw_cons cw_Turtles_part lk_Turtles_119 in_Turtles_part sel_Turtles_part ini_Turtles) rfl rfl rfl (by decide +kernel) ⟨Nat.le_of_ble_eq_true rfl, Nat.le_of_ble_eq_true rfl⟩) ⟨fun a U g mk q => by obtain ⟨q0, q1, qP, qK, qD⟩ := q; exact ⟨q0, q1, qP, va_K.moved (u := U) (U := U.calling g mk a) (Vm.Alike.refl U.vm) qK, qD⟩, va_recv hKc hPc (ci := 5) (q0 := 0) rfl rfl, fun U hU hW => ⟨rfl, by rw [hU], by rw [hU]; exact hPc, va_K.moved hW.alike hKc, hDc.weaken (fun _ _ _ _ => trivial)⟩⟩ rfl rfl hl.1 rfl (lv_room (Nat.le_of_ble_eq_true rfl)) d_Turtles_colour_6 ⟨Nat.le_of_ble_eq_true rfl, Nat.le_of_ble_eq_true rfl⟩) hS (fun q _ h => hFc q h) hFc (fun r9 u9 t9 H1 locs ht hvm e9 hB hz1 hk1 hS => ?_)
  obtain ⟨hP1, hK1, hD1⟩ := hB
  rw [ht] at hP1
  obtain ⟨hP, hD⟩ := va_join (wr := []) (w1 := [(h0, .inr (5, [.ref t_parts, .ref t_dots, .int t_told, .ref t_start, .ref t_goal, .ref t_keptParts, .ref t_keptDots, .int t_keptTold])), (t_parts, .inl (cI, 56, .inl parts))]) hP hD [0, 1] [] rfl rfl (by decide) (by decide) hk1 hFc hP1 hD1
  subst e9
  clear hP1 hD1 hK1 hvm hz1 hk1 hFc hKc hDc hPc
  subst ht
  generalize t9.heap = H at hP hS ⊢
  have hP : va_P (dC, dI) classes [(h0, .inr (5, [.ref t_parts, .ref t_dots, .int t_told, .ref t_start, .ref t_goal, .ref t_keptParts, .ref t_keptDots, .int t_keptTold])), (t_parts, .inl (cI, 56, .inl parts))] H := hP
  have hD : va_D A [(h0, .inr (5, [.ref t_parts, .ref t_dots, .int t_told, .ref t_start, .ref t_goal, .ref t_keptParts, .ref t_keptDots, .int t_keptTold])), (t_parts, .inl (cI, 56, .inl parts))] := hD
  have hP9 := hP.sub (ws' := [(h0, .inr (5, [.ref t_parts, .ref t_dots, .int t_told, .ref t_start, .ref t_goal, .ref t_keptParts, .ref t_keptDots, .int t_keptTold])), (t_parts, .inl (cI, 56, .inl parts))]) [0, 1] rfl
  have hD9 := hD.sub (ws' := [(h0, .inr (5, [.ref t_parts, .ref t_dots, .int t_told, .ref t_start, .ref t_goal, .ref t_keptParts, .ref t_keptDots, .int t_keptTold])), (t_parts, .inl (cI, 56, .inl parts))]) [0, 1] (by decide) rfl
  exact W.iret (v := ts_part parts t_told 5) hx hb hr (fun t9 ht hW => ⟨⟨ts_part parts t_told 5, (), rfl, by unfold m_Turtles_colour_r; rfl, by rw [ht]; exact hP9, va_K.moved hW.alike hK, hD9⟩, hS.F ht⟩) hS.2.2 d_Turtles_colour_9

def m_Turtles_lower_r (down : Int32) : Int32 := if down = ((0 : Int32)) then (-2147483648) else (-2147483648)
def m_Turtles_lower_w1 (t_told : Int32) (parts : Nat → Int32) (down : Int32) : Nat → Int32 := if down = ((0 : Int32)) then m_Turtles_setPart_w1 t_told parts 6 0 else m_Turtles_setPart_w1 t_told parts 6 1
set_option maxHeartbeats 4000000 in
set_option maxRecDepth 100000 in
theorem c_Turtles_lower (l : Launch) (dC : Nat → ClassId) (dI : Nat → Nat → Nat) (sz : Nat) (h0 : Nat) (t_parts : Nat) (t_dots : Nat) (t_told : Int32) (t_start : Nat) (t_goal : Nat) (t_keptParts : Nat) (t_keptDots : Nat) (t_keptTold : Int32) (cI : ClassId) (parts : Nat → Int32) (down : Int32)  : Met l y_Turtles_lower w_Turtles_lower ({ frames := 2, cells := 0, slots := 0, locals := 42 }) (va_Pc [.ref h0, .int down] (fun U => U.heap.size = sz ∧ va_P (dC, dI) classes [(h0, .inr (5, [.ref t_parts, .ref t_dots, .int t_told, .ref t_start, .ref t_goal, .ref t_keptParts, .ref t_keptDots, .int t_keptTold])), (t_parts, .inl (cI, 56, .inl parts))] U.heap ∧ va_K (dC, dI) classes [(cI, .int)] U ∧ va_D (fun _ => True) [(h0, .inr (5, [.ref t_parts, .ref t_dots, .int t_told, .ref t_start, .ref t_goal, .ref t_keptParts, .ref t_keptDots, .int t_keptTold])), (t_parts, .inl (cI, 56, .inl parts))])) (va_Qi (fun (r : Int32) (_ : Unit) => r = m_Turtles_lower_r down) (fun (_ : Unit) t => va_P (dC, dI) classes [(h0, .inr (5, [.ref t_parts, .ref t_dots, .int t_told, .ref t_start, .ref t_goal, .ref t_keptParts, .ref t_keptDots, .int t_keptTold])), (t_parts, .inl (cI, 56, .inl (m_Turtles_lower_w1 t_told parts down)))] t.heap ∧ va_K (dC, dI) classes [(cI, .int)] t ∧ va_D (va_A [(h0, .inr (5, [.ref t_parts, .ref t_dots, .int t_told, .ref t_start, .ref t_goal, .ref t_keptParts, .ref t_keptDots, .int t_keptTold])), (t_parts, .inl (cI, 56, .inl parts))] sz) [(h0, .inr (5, [.ref t_parts, .ref t_dots, .int t_told, .ref t_start, .ref t_goal, .ref t_keptParts, .ref t_keptDots, .int t_keptTold])), (t_parts, .inl (cI, 56, .inl (m_Turtles_lower_w1 t_told parts down)))]) (va_A [(h0, .inr (5, [.ref t_parts, .ref t_dots, .int t_told, .ref t_start, .ref t_goal, .ref t_keptParts, .ref t_keptDots, .int t_keptTold])), (t_parts, .inl (cI, 56, .inl parts))] sz)) 0 0 (va_A [(h0, .inr (5, [.ref t_parts, .ref t_dots, .int t_told, .ref t_start, .ref t_goal, .ref t_keptParts, .ref t_keptDots, .int t_keptTold])), (t_parts, .inl (cI, 56, .inl parts))] sz) := by
  refine Met.ofW (cc := b_Turtles_lower) (maxL := 2) (ret := (some .int)) (by decide) rfl ?_
  intro p e s m args below meth c s₁ B hml hv
  obtain ⟨rfl, hsz, hP, hK, hD0⟩ := hv
  have hx := B.exec
  have hb := B.bytes
  have hr := B.returns
  have hts := atoms_spec (ws := w_Turtles_lower) B.pre
  have htt : ∀ w ∈ tw_T, w.before _ s = true := fun w h => hts w (List.mem_cons_of_mem _ h)
  have hown : s.vm.findClass R_Turtles = some m.cls := findClass_of_methodNamed B.named
  have hlocks := B.notSynchronized
  subst hsz
  have hD := hD0.self (sz := s.heap.size)
  generalize hAe : va_A [(h0, .inr (5, [.ref t_parts, .ref t_dots, .int t_told, .ref t_start, .ref t_goal, .ref t_keptParts, .ref t_keptDots, .int t_keptTold])), (t_parts, .inl (cI, 56, .inl parts))] s.heap.size = A at hD ⊢
  have hA : ∀ q : Nat, s.heap.size ≤ q → A q := fun q h => by rw [← hAe]; exact Or.inr h
  have hS : va_S A s.heap s.heap [] := va_S.rf
  have hP : va_P (dC, dI) classes [(h0, .inr (5, [.ref t_parts, .ref t_dots, .int t_told, .ref t_start, .ref t_goal, .ref t_keptParts, .ref t_keptDots, .int t_keptTold])), (t_parts, .inl (cI, 56, .inl parts))] s.heap := hP
  have hl := lv_entry ([.ref h0, .int down]) (n := 2) (Nat.le_of_ble_eq_true rfl)
  rw [lg_entry_eq]
  generalize (lg_sl ([.ref h0, .int down]) ++ List.replicate (2 - (lg_sl ([.ref h0, .int down])).length) Slot.unset).toArray = ls at hl ⊢
  have hl : lv_has ls 2 [(0, .ref h0), (1, .int down)] := hl
  refine lv_aload_n hx hb d_Turtles_lower_0 rfl (lv_at hl 0 rfl) ?_
  refine lv_bipush (v := 6) hx hb d_Turtles_lower_1 (by decide) ?_
  refine lv_iload_n hx hb d_Turtles_lower_3 rfl (lv_at hl 1 rfl) ?_
  refine lv_if_eq (tgt := 11) hx hb d_Turtles_lower_4 (by decide) (fun c_1 => ?_) (fun c_1 => ?_)
  · refine lv_iconst (v := 0) hx hb d_Turtles_lower_11 (by decide) ?_
    have hPc := hP.sub (ws' := [(h0, .inr (5, [.ref t_parts, .ref t_dots, .int t_told, .ref t_start, .ref t_goal, .ref t_keptParts, .ref t_keptDots, .int t_keptTold])), (t_parts, .inl (cI, 56, .inl parts))]) [0, 1] rfl
    have hDc := hD.sub (ws' := [(h0, .inr (5, [.ref t_parts, .ref t_dots, .int t_told, .ref t_start, .ref t_goal, .ref t_keptParts, .ref t_keptDots, .int t_keptTold])), (t_parts, .inl (cI, 56, .inl parts))]) [0, 1] (by decide) rfl
    have hKc := hK.sub (tys' := [(cI, .int)]) [0] rfl
    have hFc := va_free (wc := [(h0, .inr (5, [.ref t_parts, .ref t_dots, .int t_told, .ref t_start, .ref t_goal, .ref t_keptParts, .ref t_keptDots, .int t_keptTold])), (t_parts, .inl (cI, 56, .inl parts))]) hD hS hA [0, 1] rfl
    refine va_callv (va_runV (As := [.int 6, .int 0]) (rest := []) ⟨hx, hb, hml, hown, hts⟩ (c_Turtles_setPart l dC dI s.heap.size h0 t_parts t_dots t_told t_start t_goal t_keptParts t_keptDots t_keptTold cI parts 6 0) (cwV 2 hts (tw_GV tw_cons cw_Turtles_setPart lk_Turtles_122 in_Turtles_setPart sel_Turtles_setPart ini_Turtles) rfl rfl rfl (by decide +kernel) ⟨Nat.le_of_ble_eq_true rfl, Nat.le_of_ble_eq_true rfl⟩) ⟨fun a U g mk q => by obtain ⟨q0, q1, qP, qK, qD⟩ := q; exact ⟨q0, q1, qP, va_K.moved (u := U) (U := U.calling g mk a) (Vm.Alike.refl U.vm) qK, qD⟩, va_recv hKc hPc (ci := 5) (q0 := 0) rfl rfl, fun U hU hW => ⟨rfl, by rw [hU], by rw [hU]; exact hPc, va_K.moved hW.alike hKc, hDc.weaken (fun _ _ _ _ => trivial)⟩⟩ rfl rfl hl.1 rfl (lv_room (Nat.le_of_ble_eq_true rfl)) d_Turtles_lower_12 ⟨Nat.le_of_ble_eq_true rfl, Nat.le_of_ble_eq_true rfl⟩) hS (fun q _ h => hFc q h) hFc (fun u9 t9 H1 locs ht hvm e9 hB hz1 hk1 hS => ?_)
    obtain ⟨hP1, hK1, hD1⟩ := hB
    rw [ht] at hP1
    obtain ⟨hP, hD⟩ := va_join (wr := []) (w1 := [(h0, .inr (5, [.ref t_parts, .ref t_dots, .int t_told, .ref t_start, .ref t_goal, .ref t_keptParts, .ref t_keptDots, .int t_keptTold])), (t_parts, .inl (cI, 56, .inl (m_Turtles_setPart_w1 t_told parts 6 0)))]) hP hD [0, 1] [] rfl rfl (by decide) (by decide) hk1 hFc hP1 hD1
    clear hP1 hD1 hK1 hvm hz1 hk1 hFc hKc hDc hPc
    subst ht
    generalize t9.heap = H at hP hS ⊢
    have hP : va_P (dC, dI) classes [(h0, .inr (5, [.ref t_parts, .ref t_dots, .int t_told, .ref t_start, .ref t_goal, .ref t_keptParts, .ref t_keptDots, .int t_keptTold])), (t_parts, .inl (cI, 56, .inl (m_Turtles_setPart_w1 t_told parts 6 0)))] H := hP
    have hD : va_D A [(h0, .inr (5, [.ref t_parts, .ref t_dots, .int t_told, .ref t_start, .ref t_goal, .ref t_keptParts, .ref t_keptDots, .int t_keptTold])), (t_parts, .inl (cI, 56, .inl (m_Turtles_setPart_w1 t_told parts 6 0)))] := hD
    refine lv_ldc (v := (-2147483648)) hx hb hown (htt _ lk_Turtles_83) d_Turtles_lower_15 ?_
    have hP9 := hP.sub (ws' := [(h0, .inr (5, [.ref t_parts, .ref t_dots, .int t_told, .ref t_start, .ref t_goal, .ref t_keptParts, .ref t_keptDots, .int t_keptTold])), (t_parts, .inl (cI, 56, .inl (m_Turtles_setPart_w1 t_told parts 6 0)))]) [0, 1] rfl
    have hD9 := hD.sub (ws' := [(h0, .inr (5, [.ref t_parts, .ref t_dots, .int t_told, .ref t_start, .ref t_goal, .ref t_keptParts, .ref t_keptDots, .int t_keptTold])), (t_parts, .inl (cI, 56, .inl (m_Turtles_setPart_w1 t_told parts 6 0)))]) [0, 1] (by decide) rfl
    have eW : [(h0, .inr (5, [.ref t_parts, .ref t_dots, .int t_told, .ref t_start, .ref t_goal, .ref t_keptParts, .ref t_keptDots, .int t_keptTold])), (t_parts, .inl (cI, 56, .inl (m_Turtles_setPart_w1 t_told parts 6 0)))] = ([(h0, .inr (5, [.ref t_parts, .ref t_dots, .int t_told, .ref t_start, .ref t_goal, .ref t_keptParts, .ref t_keptDots, .int t_keptTold])), (t_parts, .inl (cI, 56, .inl (m_Turtles_lower_w1 t_told parts down)))] : va_W) := by unfold m_Turtles_lower_w1; simp only [if_pos c_1]
    rw [eW] at hP9 hD9
    exact W.iret (v := (-2147483648)) hx hb hr (fun t9 ht hW => ⟨⟨(-2147483648), (), rfl, by unfold m_Turtles_lower_r; simp only [if_pos c_1], by rw [ht]; exact hP9, va_K.moved hW.alike hK, hD9⟩, hS.F ht⟩) hS.2.2 d_Turtles_lower_17
  · refine lv_iconst (v := 1) hx hb d_Turtles_lower_7 (by decide) ?_
    refine lv_goto (tgt := 12) hx hb d_Turtles_lower_8 (by decide) ?_
    have hPc := hP.sub (ws' := [(h0, .inr (5, [.ref t_parts, .ref t_dots, .int t_told, .ref t_start, .ref t_goal, .ref t_keptParts, .ref t_keptDots, .int t_keptTold])), (t_parts, .inl (cI, 56, .inl parts))]) [0, 1] rfl
    have hDc := hD.sub (ws' := [(h0, .inr (5, [.ref t_parts, .ref t_dots, .int t_told, .ref t_start, .ref t_goal, .ref t_keptParts, .ref t_keptDots, .int t_keptTold])), (t_parts, .inl (cI, 56, .inl parts))]) [0, 1] (by decide) rfl
    have hKc := hK.sub (tys' := [(cI, .int)]) [0] rfl
    have hFc := va_free (wc := [(h0, .inr (5, [.ref t_parts, .ref t_dots, .int t_told, .ref t_start, .ref t_goal, .ref t_keptParts, .ref t_keptDots, .int t_keptTold])), (t_parts, .inl (cI, 56, .inl parts))]) hD hS hA [0, 1] rfl
    refine va_callv (va_runV (As := [.int 6, .int 1]) (rest := []) ⟨hx, hb, hml, hown, hts⟩ (c_Turtles_setPart l dC dI s.heap.size h0 t_parts t_dots t_told t_start t_goal t_keptParts t_keptDots t_keptTold cI parts 6 1) (cwV 2 hts (tw_GV tw_cons cw_Turtles_setPart lk_Turtles_122 in_Turtles_setPart sel_Turtles_setPart ini_Turtles) rfl rfl rfl (by decide +kernel) ⟨Nat.le_of_ble_eq_true rfl, Nat.le_of_ble_eq_true rfl⟩) ⟨fun a U g mk q => by obtain ⟨q0, q1, qP, qK, qD⟩ := q; exact ⟨q0, q1, qP, va_K.moved (u := U) (U := U.calling g mk a) (Vm.Alike.refl U.vm) qK, qD⟩, va_recv hKc hPc (ci := 5) (q0 := 0) rfl rfl, fun U hU hW => ⟨rfl, by rw [hU], by rw [hU]; exact hPc, va_K.moved hW.alike hKc, hDc.weaken (fun _ _ _ _ => trivial)⟩⟩ rfl rfl hl.1 rfl (lv_room (Nat.le_of_ble_eq_true rfl)) d_Turtles_lower_12 ⟨Nat.le_of_ble_eq_true rfl, Nat.le_of_ble_eq_true rfl⟩) hS (fun q _ h => hFc q h) hFc (fun u9 t9 H1 locs ht hvm e9 hB hz1 hk1 hS => ?_)
    obtain ⟨hP1, hK1, hD1⟩ := hB
    rw [ht] at hP1
    obtain ⟨hP, hD⟩ := va_join (wr := []) (w1 := [(h0, .inr (5, [.ref t_parts, .ref t_dots, .int t_told, .ref t_start, .ref t_goal, .ref t_keptParts, .ref t_keptDots, .int t_keptTold])), (t_parts, .inl (cI, 56, .inl (m_Turtles_setPart_w1 t_told parts 6 1)))]) hP hD [0, 1] [] rfl rfl (by decide) (by decide) hk1 hFc hP1 hD1
    clear hP1 hD1 hK1 hvm hz1 hk1 hFc hKc hDc hPc
    subst ht
    generalize t9.heap = H at hP hS ⊢
    have hP : va_P (dC, dI) classes [(h0, .inr (5, [.ref t_parts, .ref t_dots, .int t_told, .ref t_start, .ref t_goal, .ref t_keptParts, .ref t_keptDots, .int t_keptTold])), (t_parts, .inl (cI, 56, .inl (m_Turtles_setPart_w1 t_told parts 6 1)))] H := hP
    have hD : va_D A [(h0, .inr (5, [.ref t_parts, .ref t_dots, .int t_told, .ref t_start, .ref t_goal, .ref t_keptParts, .ref t_keptDots, .int t_keptTold])), (t_parts, .inl (cI, 56, .inl (m_Turtles_setPart_w1 t_told parts 6 1)))] := hD
    refine lv_ldc (v := (-2147483648)) hx hb hown (htt _ lk_Turtles_83) d_Turtles_lower_15 ?_
    have hP9 := hP.sub (ws' := [(h0, .inr (5, [.ref t_parts, .ref t_dots, .int t_told, .ref t_start, .ref t_goal, .ref t_keptParts, .ref t_keptDots, .int t_keptTold])), (t_parts, .inl (cI, 56, .inl (m_Turtles_setPart_w1 t_told parts 6 1)))]) [0, 1] rfl
    have hD9 := hD.sub (ws' := [(h0, .inr (5, [.ref t_parts, .ref t_dots, .int t_told, .ref t_start, .ref t_goal, .ref t_keptParts, .ref t_keptDots, .int t_keptTold])), (t_parts, .inl (cI, 56, .inl (m_Turtles_setPart_w1 t_told parts 6 1)))]) [0, 1] (by decide) rfl
    have eW : [(h0, .inr (5, [.ref t_parts, .ref t_dots, .int t_told, .ref t_start, .ref t_goal, .ref t_keptParts, .ref t_keptDots, .int t_keptTold])), (t_parts, .inl (cI, 56, .inl (m_Turtles_setPart_w1 t_told parts 6 1)))] = ([(h0, .inr (5, [.ref t_parts, .ref t_dots, .int t_told, .ref t_start, .ref t_goal, .ref t_keptParts, .ref t_keptDots, .int t_keptTold])), (t_parts, .inl (cI, 56, .inl (m_Turtles_lower_w1 t_told parts down)))] : va_W) := by unfold m_Turtles_lower_w1; simp only [if_neg c_1]
    rw [eW] at hP9 hD9
    exact W.iret (v := (-2147483648)) hx hb hr (fun t9 ht hW => ⟨⟨(-2147483648), (), rfl, by unfold m_Turtles_lower_r; simp only [if_neg c_1], by rw [ht]; exact hP9, va_K.moved hW.alike hK, hD9⟩, hS.F ht⟩) hS.2.2 d_Turtles_lower_17

def m_Turtles_takePen_r (k : Int32) : Int32 := if k < ((0 : Int32)) then (-2147483645) else if k ≤ ((7 : Int32)) then (-2147483648) else (-2147483645)
def m_Turtles_takePen_w1 (t_told : Int32) (parts : Nat → Int32) (k : Int32) : Nat → Int32 := if k < ((0 : Int32)) then parts else if k ≤ ((7 : Int32)) then m_Turtles_setPart_w1 t_told parts 5 k else parts
set_option maxHeartbeats 4000000 in
set_option maxRecDepth 100000 in
theorem c_Turtles_takePen (l : Launch) (dC : Nat → ClassId) (dI : Nat → Nat → Nat) (sz : Nat) (h0 : Nat) (t_parts : Nat) (t_dots : Nat) (t_told : Int32) (t_start : Nat) (t_goal : Nat) (t_keptParts : Nat) (t_keptDots : Nat) (t_keptTold : Int32) (cI : ClassId) (parts : Nat → Int32) (k : Int32)  : Met l y_Turtles_takePen w_Turtles_takePen ({ frames := 2, cells := 0, slots := 0, locals := 42 }) (va_Pc [.ref h0, .int k] (fun U => U.heap.size = sz ∧ va_P (dC, dI) classes [(h0, .inr (5, [.ref t_parts, .ref t_dots, .int t_told, .ref t_start, .ref t_goal, .ref t_keptParts, .ref t_keptDots, .int t_keptTold])), (t_parts, .inl (cI, 56, .inl parts))] U.heap ∧ va_K (dC, dI) classes [(cI, .int)] U ∧ va_D (fun _ => True) [(h0, .inr (5, [.ref t_parts, .ref t_dots, .int t_told, .ref t_start, .ref t_goal, .ref t_keptParts, .ref t_keptDots, .int t_keptTold])), (t_parts, .inl (cI, 56, .inl parts))])) (va_Qi (fun (r : Int32) (_ : Unit) => r = m_Turtles_takePen_r k) (fun (_ : Unit) t => va_P (dC, dI) classes [(h0, .inr (5, [.ref t_parts, .ref t_dots, .int t_told, .ref t_start, .ref t_goal, .ref t_keptParts, .ref t_keptDots, .int t_keptTold])), (t_parts, .inl (cI, 56, .inl (m_Turtles_takePen_w1 t_told parts k)))] t.heap ∧ va_K (dC, dI) classes [(cI, .int)] t ∧ va_D (va_A [(h0, .inr (5, [.ref t_parts, .ref t_dots, .int t_told, .ref t_start, .ref t_goal, .ref t_keptParts, .ref t_keptDots, .int t_keptTold])), (t_parts, .inl (cI, 56, .inl parts))] sz) [(h0, .inr (5, [.ref t_parts, .ref t_dots, .int t_told, .ref t_start, .ref t_goal, .ref t_keptParts, .ref t_keptDots, .int t_keptTold])), (t_parts, .inl (cI, 56, .inl (m_Turtles_takePen_w1 t_told parts k)))]) (va_A [(h0, .inr (5, [.ref t_parts, .ref t_dots, .int t_told, .ref t_start, .ref t_goal, .ref t_keptParts, .ref t_keptDots, .int t_keptTold])), (t_parts, .inl (cI, 56, .inl parts))] sz)) 0 0 (va_A [(h0, .inr (5, [.ref t_parts, .ref t_dots, .int t_told, .ref t_start, .ref t_goal, .ref t_keptParts, .ref t_keptDots, .int t_keptTold])), (t_parts, .inl (cI, 56, .inl parts))] sz) := by
  refine Met.ofW (cc := b_Turtles_takePen) (maxL := 2) (ret := (some .int)) (by decide) rfl ?_
  intro p e s m args below meth c s₁ B hml hv
  obtain ⟨rfl, hsz, hP, hK, hD0⟩ := hv
  have hx := B.exec
  have hb := B.bytes
  have hr := B.returns
  have hts := atoms_spec (ws := w_Turtles_takePen) B.pre
  have htt : ∀ w ∈ tw_T, w.before _ s = true := fun w h => hts w (List.mem_cons_of_mem _ h)
  have hown : s.vm.findClass R_Turtles = some m.cls := findClass_of_methodNamed B.named
  have hlocks := B.notSynchronized
  subst hsz
  have hD := hD0.self (sz := s.heap.size)
  generalize hAe : va_A [(h0, .inr (5, [.ref t_parts, .ref t_dots, .int t_told, .ref t_start, .ref t_goal, .ref t_keptParts, .ref t_keptDots, .int t_keptTold])), (t_parts, .inl (cI, 56, .inl parts))] s.heap.size = A at hD ⊢
  have hA : ∀ q : Nat, s.heap.size ≤ q → A q := fun q h => by rw [← hAe]; exact Or.inr h
  have hS : va_S A s.heap s.heap [] := va_S.rf
  have hP : va_P (dC, dI) classes [(h0, .inr (5, [.ref t_parts, .ref t_dots, .int t_told, .ref t_start, .ref t_goal, .ref t_keptParts, .ref t_keptDots, .int t_keptTold])), (t_parts, .inl (cI, 56, .inl parts))] s.heap := hP
  have hl := lv_entry ([.ref h0, .int k]) (n := 2) (Nat.le_of_ble_eq_true rfl)
  rw [lg_entry_eq]
  generalize (lg_sl ([.ref h0, .int k]) ++ List.replicate (2 - (lg_sl ([.ref h0, .int k])).length) Slot.unset).toArray = ls at hl ⊢
  have hl : lv_has ls 2 [(0, .ref h0), (1, .int k)] := hl
  refine lv_iload_n hx hb d_Turtles_takePen_0 rfl (lv_at hl 1 rfl) ?_
  refine lv_if_lt (tgt := 10) hx hb d_Turtles_takePen_1 (by decide) (fun c_1 => ?_) (fun c_1 => ?_)
  · refine lv_ldc (v := (-2147483645)) hx hb hown (htt _ lk_Turtles_62) d_Turtles_takePen_10 ?_
    have hP9 := hP.sub (ws' := [(h0, .inr (5, [.ref t_parts, .ref t_dots, .int t_told, .ref t_start, .ref t_goal, .ref t_keptParts, .ref t_keptDots, .int t_keptTold])), (t_parts, .inl (cI, 56, .inl parts))]) [0, 1] rfl
    have hD9 := hD.sub (ws' := [(h0, .inr (5, [.ref t_parts, .ref t_dots, .int t_told, .ref t_start, .ref t_goal, .ref t_keptParts, .ref t_keptDots, .int t_keptTold])), (t_parts, .inl (cI, 56, .inl parts))]) [0, 1] (by decide) rfl
    have eW : [(h0, .inr (5, [.ref t_parts, .ref t_dots, .int t_told, .ref t_start, .ref t_goal, .ref t_keptParts, .ref t_keptDots, .int t_keptTold])), (t_parts, .inl (cI, 56, .inl parts))] = ([(h0, .inr (5, [.ref t_parts, .ref t_dots, .int t_told, .ref t_start, .ref t_goal, .ref t_keptParts, .ref t_keptDots, .int t_keptTold])), (t_parts, .inl (cI, 56, .inl (m_Turtles_takePen_w1 t_told parts k)))] : va_W) := by unfold m_Turtles_takePen_w1; simp only [if_pos c_1]
    rw [eW] at hP9 hD9
    exact W.iret (v := (-2147483645)) hx hb hr (fun t9 ht hW => ⟨⟨(-2147483645), (), rfl, by unfold m_Turtles_takePen_r; simp only [if_pos c_1], by rw [ht]; exact hP9, va_K.moved hW.alike hK, hD9⟩, hS.F ht⟩) hS.2.2 d_Turtles_takePen_12
  · refine lv_iload_n hx hb d_Turtles_takePen_4 rfl (lv_at hl 1 rfl) ?_
    refine lv_bipush (v := 7) hx hb d_Turtles_takePen_5 (by decide) ?_
    refine lv_icmp_le (tgt := 13) hx hb d_Turtles_takePen_7 (by decide) (fun c_2 => ?_) (fun c_2 => ?_)
    · refine lv_aload_n hx hb d_Turtles_takePen_13 rfl (lv_at hl 0 rfl) ?_
      refine lv_iconst (v := 5) hx hb d_Turtles_takePen_14 (by decide) ?_
      refine lv_iload_n hx hb d_Turtles_takePen_15 rfl (lv_at hl 1 rfl) ?_
      have hPc := hP.sub (ws' := [(h0, .inr (5, [.ref t_parts, .ref t_dots, .int t_told, .ref t_start, .ref t_goal, .ref t_keptParts, .ref t_keptDots, .int t_keptTold])), (t_parts, .inl (cI, 56, .inl parts))]) [0, 1] rfl
      have hDc := hD.sub (ws' := [(h0, .inr (5, [.ref t_parts, .ref t_dots, .int t_told, .ref t_start, .ref t_goal, .ref t_keptParts, .ref t_keptDots, .int t_keptTold])), (t_parts, .inl (cI, 56, .inl parts))]) [0, 1] (by decide) rfl
      have hKc := hK.sub (tys' := [(cI, .int)]) [0] rfl
      have hFc := va_free (wc := [(h0, .inr (5, [.ref t_parts, .ref t_dots, .int t_told, .ref t_start, .ref t_goal, .ref t_keptParts, .ref t_keptDots, .int t_keptTold])), (t_parts, .inl (cI, 56, .inl parts))]) hD hS hA [0, 1] rfl
      refine va_callv (va_runV (As := [.int 5, .int k]) (rest := []) ⟨hx, hb, hml, hown, hts⟩ (c_Turtles_setPart l dC dI s.heap.size h0 t_parts t_dots t_told t_start t_goal t_keptParts t_keptDots t_keptTold cI parts 5 k) (cwV 2 hts (tw_GV tw_cons cw_Turtles_setPart lk_Turtles_122 in_Turtles_setPart sel_Turtles_setPart ini_Turtles) rfl rfl rfl (by decide +kernel) ⟨Nat.le_of_ble_eq_true rfl, Nat.le_of_ble_eq_true rfl⟩) ⟨fun a U g mk q => by obtain ⟨q0, q1, qP, qK, qD⟩ := q; exact ⟨q0, q1, qP, va_K.moved (u := U) (U := U.calling g mk a) (Vm.Alike.refl U.vm) qK, qD⟩, va_recv hKc hPc (ci := 5) (q0 := 0) rfl rfl, fun U hU hW => ⟨rfl, by rw [hU], by rw [hU]; exact hPc, va_K.moved hW.alike hKc, hDc.weaken (fun _ _ _ _ => trivial)⟩⟩ rfl rfl hl.1 rfl (lv_room (Nat.le_of_ble_eq_true rfl)) d_Turtles_takePen_16 ⟨Nat.le_of_ble_eq_true rfl, Nat.le_of_ble_eq_true rfl⟩) hS (fun q _ h => hFc q h) hFc (fun u9 t9 H1 locs ht hvm e9 hB hz1 hk1 hS => ?_)
      obtain ⟨hP1, hK1, hD1⟩ := hB
      rw [ht] at hP1
      obtain ⟨hP, hD⟩ := va_join (wr := []) (w1 := [(h0, .inr (5, [.ref t_parts, .ref t_dots, .int t_told, .ref t_start, .ref t_goal, .ref t_keptParts, .ref t_keptDots, .int t_keptTold])), (t_parts, .inl (cI, 56, .inl (m_Turtles_setPart_w1 t_told parts 5 k)))]) hP hD [0, 1] [] rfl rfl (by decide) (by decide) hk1 hFc hP1 hD1
      clear hP1 hD1 hK1 hvm hz1 hk1 hFc hKc hDc hPc
      subst ht
      generalize t9.heap = H at hP hS ⊢
      have hP : va_P (dC, dI) classes [(h0, .inr (5, [.ref t_parts, .ref t_dots, .int t_told, .ref t_start, .ref t_goal, .ref t_keptParts, .ref t_keptDots, .int t_keptTold])), (t_parts, .inl (cI, 56, .inl (m_Turtles_setPart_w1 t_told parts 5 k)))] H := hP
      have hD : va_D A [(h0, .inr (5, [.ref t_parts, .ref t_dots, .int t_told, .ref t_start, .ref t_goal, .ref t_keptParts, .ref t_keptDots, .int t_keptTold])), (t_parts, .inl (cI, 56, .inl (m_Turtles_setPart_w1 t_told parts 5 k)))] := hD
      refine lv_ldc (v := (-2147483648)) hx hb hown (htt _ lk_Turtles_83) d_Turtles_takePen_19 ?_
      have hP9 := hP.sub (ws' := [(h0, .inr (5, [.ref t_parts, .ref t_dots, .int t_told, .ref t_start, .ref t_goal, .ref t_keptParts, .ref t_keptDots, .int t_keptTold])), (t_parts, .inl (cI, 56, .inl (m_Turtles_setPart_w1 t_told parts 5 k)))]) [0, 1] rfl
      have hD9 := hD.sub (ws' := [(h0, .inr (5, [.ref t_parts, .ref t_dots, .int t_told, .ref t_start, .ref t_goal, .ref t_keptParts, .ref t_keptDots, .int t_keptTold])), (t_parts, .inl (cI, 56, .inl (m_Turtles_setPart_w1 t_told parts 5 k)))]) [0, 1] (by decide) rfl
      have eW : [(h0, .inr (5, [.ref t_parts, .ref t_dots, .int t_told, .ref t_start, .ref t_goal, .ref t_keptParts, .ref t_keptDots, .int t_keptTold])), (t_parts, .inl (cI, 56, .inl (m_Turtles_setPart_w1 t_told parts 5 k)))] = ([(h0, .inr (5, [.ref t_parts, .ref t_dots, .int t_told, .ref t_start, .ref t_goal, .ref t_keptParts, .ref t_keptDots, .int t_keptTold])), (t_parts, .inl (cI, 56, .inl (m_Turtles_takePen_w1 t_told parts k)))] : va_W) := by unfold m_Turtles_takePen_w1; simp only [if_neg c_1, if_pos c_2]
      rw [eW] at hP9 hD9
      exact W.iret (v := (-2147483648)) hx hb hr (fun t9 ht hW => ⟨⟨(-2147483648), (), rfl, by unfold m_Turtles_takePen_r; simp only [if_neg c_1, if_pos c_2], by rw [ht]; exact hP9, va_K.moved hW.alike hK, hD9⟩, hS.F ht⟩) hS.2.2 d_Turtles_takePen_21
    · refine lv_ldc (v := (-2147483645)) hx hb hown (htt _ lk_Turtles_62) d_Turtles_takePen_10 ?_
      have hP9 := hP.sub (ws' := [(h0, .inr (5, [.ref t_parts, .ref t_dots, .int t_told, .ref t_start, .ref t_goal, .ref t_keptParts, .ref t_keptDots, .int t_keptTold])), (t_parts, .inl (cI, 56, .inl parts))]) [0, 1] rfl
      have hD9 := hD.sub (ws' := [(h0, .inr (5, [.ref t_parts, .ref t_dots, .int t_told, .ref t_start, .ref t_goal, .ref t_keptParts, .ref t_keptDots, .int t_keptTold])), (t_parts, .inl (cI, 56, .inl parts))]) [0, 1] (by decide) rfl
      have eW : [(h0, .inr (5, [.ref t_parts, .ref t_dots, .int t_told, .ref t_start, .ref t_goal, .ref t_keptParts, .ref t_keptDots, .int t_keptTold])), (t_parts, .inl (cI, 56, .inl parts))] = ([(h0, .inr (5, [.ref t_parts, .ref t_dots, .int t_told, .ref t_start, .ref t_goal, .ref t_keptParts, .ref t_keptDots, .int t_keptTold])), (t_parts, .inl (cI, 56, .inl (m_Turtles_takePen_w1 t_told parts k)))] : va_W) := by unfold m_Turtles_takePen_w1; simp only [if_neg c_1, if_neg c_2]
      rw [eW] at hP9 hD9
      exact W.iret (v := (-2147483645)) hx hb hr (fun t9 ht hW => ⟨⟨(-2147483645), (), rfl, by unfold m_Turtles_takePen_r; simp only [if_neg c_1, if_neg c_2], by rw [ht]; exact hP9, va_K.moved hW.alike hK, hD9⟩, hS.F ht⟩) hS.2.2 d_Turtles_takePen_12

def m_Turtles_putAt_r (x : Int32) (y : Int32) : Int32 := if x < ((-30000 : Int32)) then (-2147483645) else if ((30000 : Int32)) < x then (-2147483645) else if y < ((-30000 : Int32)) then (-2147483645) else if y ≤ ((30000 : Int32)) then (-2147483648) else (-2147483645)
def m_Turtles_putAt_w1 (t_told : Int32) (parts : Nat → Int32) (x : Int32) (y : Int32) : Nat → Int32 := if x < ((-30000 : Int32)) then parts else if ((30000 : Int32)) < x then parts else if y < ((-30000 : Int32)) then parts else if y ≤ ((30000 : Int32)) then m_Turtles_setPart_w1 t_told (m_Turtles_setPart_w1 t_told (m_Turtles_setPart_w1 t_told (m_Turtles_setPart_w1 t_told parts 0 (2 * x)) 1 0) 2 (2 * y)) 3 0 else parts
set_option maxHeartbeats 4000000 in
set_option maxRecDepth 100000 in
theorem c_Turtles_putAt (l : Launch) (dC : Nat → ClassId) (dI : Nat → Nat → Nat) (sz : Nat) (h0 : Nat) (t_parts : Nat) (t_dots : Nat) (t_told : Int32) (t_start : Nat) (t_goal : Nat) (t_keptParts : Nat) (t_keptDots : Nat) (t_keptTold : Int32) (cI : ClassId) (parts : Nat → Int32) (x : Int32) (y : Int32)  : Met l y_Turtles_putAt w_Turtles_putAt ({ frames := 2, cells := 0, slots := 0, locals := 42 }) (va_Pc [.ref h0, .int x, .int y] (fun U => U.heap.size = sz ∧ va_P (dC, dI) classes [(h0, .inr (5, [.ref t_parts, .ref t_dots, .int t_told, .ref t_start, .ref t_goal, .ref t_keptParts, .ref t_keptDots, .int t_keptTold])), (t_parts, .inl (cI, 56, .inl parts))] U.heap ∧ va_K (dC, dI) classes [(cI, .int)] U ∧ va_D (fun _ => True) [(h0, .inr (5, [.ref t_parts, .ref t_dots, .int t_told, .ref t_start, .ref t_goal, .ref t_keptParts, .ref t_keptDots, .int t_keptTold])), (t_parts, .inl (cI, 56, .inl parts))])) (va_Qi (fun (r : Int32) (_ : Unit) => r = m_Turtles_putAt_r x y) (fun (_ : Unit) t => va_P (dC, dI) classes [(h0, .inr (5, [.ref t_parts, .ref t_dots, .int t_told, .ref t_start, .ref t_goal, .ref t_keptParts, .ref t_keptDots, .int t_keptTold])), (t_parts, .inl (cI, 56, .inl (m_Turtles_putAt_w1 t_told parts x y)))] t.heap ∧ va_K (dC, dI) classes [(cI, .int)] t ∧ va_D (va_A [(h0, .inr (5, [.ref t_parts, .ref t_dots, .int t_told, .ref t_start, .ref t_goal, .ref t_keptParts, .ref t_keptDots, .int t_keptTold])), (t_parts, .inl (cI, 56, .inl parts))] sz) [(h0, .inr (5, [.ref t_parts, .ref t_dots, .int t_told, .ref t_start, .ref t_goal, .ref t_keptParts, .ref t_keptDots, .int t_keptTold])), (t_parts, .inl (cI, 56, .inl (m_Turtles_putAt_w1 t_told parts x y)))]) (va_A [(h0, .inr (5, [.ref t_parts, .ref t_dots, .int t_told, .ref t_start, .ref t_goal, .ref t_keptParts, .ref t_keptDots, .int t_keptTold])), (t_parts, .inl (cI, 56, .inl parts))] sz)) 0 0 (va_A [(h0, .inr (5, [.ref t_parts, .ref t_dots, .int t_told, .ref t_start, .ref t_goal, .ref t_keptParts, .ref t_keptDots, .int t_keptTold])), (t_parts, .inl (cI, 56, .inl parts))] sz) := by
  refine Met.ofW (cc := b_Turtles_putAt) (maxL := 3) (ret := (some .int)) (by decide) rfl ?_
  intro p e s m args below meth c s₁ B hml hv
  obtain ⟨rfl, hsz, hP, hK, hD0⟩ := hv
  have hx := B.exec
  have hb := B.bytes
  have hr := B.returns
  have hts := atoms_spec (ws := w_Turtles_putAt) B.pre
  have htt : ∀ w ∈ tw_T, w.before _ s = true := fun w h => hts w (List.mem_cons_of_mem _ h)
  have hown : s.vm.findClass R_Turtles = some m.cls := findClass_of_methodNamed B.named
  have hlocks := B.notSynchronized
  subst hsz
  have hD := hD0.self (sz := s.heap.size)
  generalize hAe : va_A [(h0, .inr (5, [.ref t_parts, .ref t_dots, .int t_told, .ref t_start, .ref t_goal, .ref t_keptParts, .ref t_keptDots, .int t_keptTold])), (t_parts, .inl (cI, 56, .inl parts))] s.heap.size = A at hD ⊢
  have hA : ∀ q : Nat, s.heap.size ≤ q → A q := fun q h => by rw [← hAe]; exact Or.inr h
  have hS : va_S A s.heap s.heap [] := va_S.rf
  have hP : va_P (dC, dI) classes [(h0, .inr (5, [.ref t_parts, .ref t_dots, .int t_told, .ref t_start, .ref t_goal, .ref t_keptParts, .ref t_keptDots, .int t_keptTold])), (t_parts, .inl (cI, 56, .inl parts))] s.heap := hP
  have hl := lv_entry ([.ref h0, .int x, .int y]) (n := 3) (Nat.le_of_ble_eq_true rfl)
  rw [lg_entry_eq]
  generalize (lg_sl ([.ref h0, .int x, .int y]) ++ List.replicate (3 - (lg_sl ([.ref h0, .int x, .int y])).length) Slot.unset).toArray = ls at hl ⊢
  have hl : lv_has ls 3 [(0, .ref h0), (1, .int x), (2, .int y)] := hl
  refine lv_iload_n hx hb d_Turtles_putAt_0 rfl (lv_at hl 1 rfl) ?_
  refine lv_sipush (v := -30000) hx hb d_Turtles_putAt_1 (by decide) ?_
  refine lv_icmp_lt (tgt := 28) hx hb d_Turtles_putAt_4 (by decide) (fun c_1 => ?_) (fun c_1 => ?_)
  · refine lv_ldc (v := (-2147483645)) hx hb hown (htt _ lk_Turtles_62) d_Turtles_putAt_28 ?_
    have hP9 := hP.sub (ws' := [(h0, .inr (5, [.ref t_parts, .ref t_dots, .int t_told, .ref t_start, .ref t_goal, .ref t_keptParts, .ref t_keptDots, .int t_keptTold])), (t_parts, .inl (cI, 56, .inl parts))]) [0, 1] rfl
    have hD9 := hD.sub (ws' := [(h0, .inr (5, [.ref t_parts, .ref t_dots, .int t_told, .ref t_start, .ref t_goal, .ref t_keptParts, .ref t_keptDots, .int t_keptTold])), (t_parts, .inl (cI, 56, .inl parts))]) [0, 1] (by decide) rfl
    have eW : [(h0, .inr (5, [.ref t_parts, .ref t_dots, .int t_told, .ref t_start, .ref t_goal, .ref t_keptParts, .ref t_keptDots, .int t_keptTold])), (t_parts, .inl (cI, 56, .inl parts))] = ([(h0, .inr (5, [.ref t_parts, .ref t_dots, .int t_told, .ref t_start, .ref t_goal, .ref t_keptParts, .ref t_keptDots, .int t_keptTold])), (t_parts, .inl (cI, 56, .inl (m_Turtles_putAt_w1 t_told parts x y)))] : va_W) := by unfold m_Turtles_putAt_w1; simp only [if_pos c_1]
    rw [eW] at hP9 hD9
    exact W.iret (v := (-2147483645)) hx hb hr (fun t9 ht hW => ⟨⟨(-2147483645), (), rfl, by unfold m_Turtles_putAt_r; simp only [if_pos c_1], by rw [ht]; exact hP9, va_K.moved hW.alike hK, hD9⟩, hS.F ht⟩) hS.2.2 d_Turtles_putAt_30
  · refine lv_iload_n hx hb d_Turtles_putAt_7 rfl (lv_at hl 1 rfl) ?_
    refine lv_sipush (v := 30000) hx hb d_Turtles_putAt_8 (by decide) ?_
    refine lv_icmp_gt (tgt := 28) hx hb d_Turtles_putAt_11 (by decide) (fun c_2 => ?_) (fun c_2 => ?_)
    · refine lv_ldc (v := (-2147483645)) hx hb hown (htt _ lk_Turtles_62) d_Turtles_putAt_28 ?_
      have hP9 := hP.sub (ws' := [(h0, .inr (5, [.ref t_parts, .ref t_dots, .int t_told, .ref t_start, .ref t_goal, .ref t_keptParts, .ref t_keptDots, .int t_keptTold])), (t_parts, .inl (cI, 56, .inl parts))]) [0, 1] rfl
      have hD9 := hD.sub (ws' := [(h0, .inr (5, [.ref t_parts, .ref t_dots, .int t_told, .ref t_start, .ref t_goal, .ref t_keptParts, .ref t_keptDots, .int t_keptTold])), (t_parts, .inl (cI, 56, .inl parts))]) [0, 1] (by decide) rfl
      have eW : [(h0, .inr (5, [.ref t_parts, .ref t_dots, .int t_told, .ref t_start, .ref t_goal, .ref t_keptParts, .ref t_keptDots, .int t_keptTold])), (t_parts, .inl (cI, 56, .inl parts))] = ([(h0, .inr (5, [.ref t_parts, .ref t_dots, .int t_told, .ref t_start, .ref t_goal, .ref t_keptParts, .ref t_keptDots, .int t_keptTold])), (t_parts, .inl (cI, 56, .inl (m_Turtles_putAt_w1 t_told parts x y)))] : va_W) := by unfold m_Turtles_putAt_w1; simp only [if_neg c_1, if_pos c_2]
      rw [eW] at hP9 hD9
      exact W.iret (v := (-2147483645)) hx hb hr (fun t9 ht hW => ⟨⟨(-2147483645), (), rfl, by unfold m_Turtles_putAt_r; simp only [if_neg c_1, if_pos c_2], by rw [ht]; exact hP9, va_K.moved hW.alike hK, hD9⟩, hS.F ht⟩) hS.2.2 d_Turtles_putAt_30
    · refine lv_iload_n hx hb d_Turtles_putAt_14 rfl (lv_at hl 2 rfl) ?_
      refine lv_sipush (v := -30000) hx hb d_Turtles_putAt_15 (by decide) ?_
      refine lv_icmp_lt (tgt := 28) hx hb d_Turtles_putAt_18 (by decide) (fun c_3 => ?_) (fun c_3 => ?_)
      · refine lv_ldc (v := (-2147483645)) hx hb hown (htt _ lk_Turtles_62) d_Turtles_putAt_28 ?_
        have hP9 := hP.sub (ws' := [(h0, .inr (5, [.ref t_parts, .ref t_dots, .int t_told, .ref t_start, .ref t_goal, .ref t_keptParts, .ref t_keptDots, .int t_keptTold])), (t_parts, .inl (cI, 56, .inl parts))]) [0, 1] rfl
        have hD9 := hD.sub (ws' := [(h0, .inr (5, [.ref t_parts, .ref t_dots, .int t_told, .ref t_start, .ref t_goal, .ref t_keptParts, .ref t_keptDots, .int t_keptTold])), (t_parts, .inl (cI, 56, .inl parts))]) [0, 1] (by decide) rfl
        have eW : [(h0, .inr (5, [.ref t_parts, .ref t_dots, .int t_told, .ref t_start, .ref t_goal, .ref t_keptParts, .ref t_keptDots, .int t_keptTold])), (t_parts, .inl (cI, 56, .inl parts))] = ([(h0, .inr (5, [.ref t_parts, .ref t_dots, .int t_told, .ref t_start, .ref t_goal, .ref t_keptParts, .ref t_keptDots, .int t_keptTold])), (t_parts, .inl (cI, 56, .inl (m_Turtles_putAt_w1 t_told parts x y)))] : va_W) := by unfold m_Turtles_putAt_w1; simp only [if_neg c_1, if_neg c_2, if_pos c_3]
        rw [eW] at hP9 hD9
        exact W.iret (v := (-2147483645)) hx hb hr (fun t9 ht hW => ⟨⟨(-2147483645), (), rfl, by unfold m_Turtles_putAt_r; simp only [if_neg c_1, if_neg c_2, if_pos c_3], by rw [ht]; exact hP9, va_K.moved hW.alike hK, hD9⟩, hS.F ht⟩) hS.2.2 d_Turtles_putAt_30
      · refine lv_iload_n hx hb d_Turtles_putAt_21 rfl (lv_at hl 2 rfl) ?_
        refine lv_sipush (v := 30000) hx hb d_Turtles_putAt_22 (by decide) ?_
        refine lv_icmp_le (tgt := 31) hx hb d_Turtles_putAt_25 (by decide) (fun c_4 => ?_) (fun c_4 => ?_)
        · refine lv_aload_n hx hb d_Turtles_putAt_31 rfl (lv_at hl 0 rfl) ?_
          refine lv_iconst (v := 0) hx hb d_Turtles_putAt_32 (by decide) ?_
          refine lv_iconst (v := 2) hx hb d_Turtles_putAt_33 (by decide) ?_
          refine lv_iload_n hx hb d_Turtles_putAt_34 rfl (lv_at hl 1 rfl) ?_
          refine lv_imul hx hb d_Turtles_putAt_35 ?_
          have hPc := hP.sub (ws' := [(h0, .inr (5, [.ref t_parts, .ref t_dots, .int t_told, .ref t_start, .ref t_goal, .ref t_keptParts, .ref t_keptDots, .int t_keptTold])), (t_parts, .inl (cI, 56, .inl parts))]) [0, 1] rfl
          have hDc := hD.sub (ws' := [(h0, .inr (5, [.ref t_parts, .ref t_dots, .int t_told, .ref t_start, .ref t_goal, .ref t_keptParts, .ref t_keptDots, .int t_keptTold])), (t_parts, .inl (cI, 56, .inl parts))]) [0, 1] (by decide) rfl
          have hKc := hK.sub (tys' := [(cI, .int)]) [0] rfl
          have hFc := va_free (wc := [(h0, .inr (5, [.ref t_parts, .ref t_dots, .int t_told, .ref t_start, .ref t_goal, .ref t_keptParts, .ref t_keptDots, .int t_keptTold])), (t_parts, .inl (cI, 56, .inl parts))]) hD hS hA [0, 1] rfl
          refine va_callv (va_runV (As := [.int 0, .int (2 * x)]) (rest := []) ⟨hx, hb, hml, hown, hts⟩ (c_Turtles_setPart l dC dI s.heap.size h0 t_parts t_dots t_told t_start t_goal t_keptParts t_keptDots t_keptTold cI parts 0 (2 * x)) (cwV 2 hts (tw_GV tw_cons cw_Turtles_setPart lk_Turtles_122 in_Turtles_setPart sel_Turtles_setPart ini_Turtles) rfl rfl rfl (by decide +kernel) ⟨Nat.le_of_ble_eq_true rfl, Nat.le_of_ble_eq_true rfl⟩) ⟨fun a U g mk q => by obtain ⟨q0, q1, qP, qK, qD⟩ := q; exact ⟨q0, q1, qP, va_K.moved (u := U) (U := U.calling g mk a) (Vm.Alike.refl U.vm) qK, qD⟩, va_recv hKc hPc (ci := 5) (q0 := 0) rfl rfl, fun U hU hW => ⟨rfl, by rw [hU], by rw [hU]; exact hPc, va_K.moved hW.alike hKc, hDc.weaken (fun _ _ _ _ => trivial)⟩⟩ rfl rfl hl.1 rfl (lv_room (Nat.le_of_ble_eq_true rfl)) d_Turtles_putAt_36 ⟨Nat.le_of_ble_eq_true rfl, Nat.le_of_ble_eq_true rfl⟩) hS (fun q _ h => hFc q h) hFc (fun u9 t9 H1 locs ht hvm e9 hB hz1 hk1 hS => ?_)
          obtain ⟨hP1, hK1, hD1⟩ := hB
          rw [ht] at hP1
          obtain ⟨hP, hD⟩ := va_join (wr := []) (w1 := [(h0, .inr (5, [.ref t_parts, .ref t_dots, .int t_told, .ref t_start, .ref t_goal, .ref t_keptParts, .ref t_keptDots, .int t_keptTold])), (t_parts, .inl (cI, 56, .inl (m_Turtles_setPart_w1 t_told parts 0 (2 * x))))]) hP hD [0, 1] [] rfl rfl (by decide) (by decide) hk1 hFc hP1 hD1
          clear hP1 hD1 hK1 hvm hz1 hk1 hFc hKc hDc hPc
          subst ht
          generalize t9.heap = H at hP hS ⊢
          have hP : va_P (dC, dI) classes [(h0, .inr (5, [.ref t_parts, .ref t_dots, .int t_told, .ref t_start, .ref t_goal, .ref t_keptParts, .ref t_keptDots, .int t_keptTold])), (t_parts, .inl (cI, 56, .inl (m_Turtles_setPart_w1 t_told parts 0 (2 * x))))] H := hP
          have hD : va_D A [(h0, .inr (5, [.ref t_parts, .ref t_dots, .int t_told, .ref t_start, .ref t_goal, .ref t_keptParts, .ref t_keptDots, .int t_keptTold])), (t_parts, .inl (cI, 56, .inl (m_Turtles_setPart_w1 t_told parts 0 (2 * x))))] := hD
          refine lv_aload_n hx hb d_Turtles_putAt_39 rfl (lv_at hl 0 rfl) ?_
          refine lv_iconst (v := 1) hx hb d_Turtles_putAt_40 (by decide) ?_
          refine lv_iconst (v := 0) hx hb d_Turtles_putAt_41 (by decide) ?_
          have hPc := hP.sub (ws' := [(h0, .inr (5, [.ref t_parts, .ref t_dots, .int t_told, .ref t_start, .ref t_goal, .ref t_keptParts, .ref t_keptDots, .int t_keptTold])), (t_parts, .inl (cI, 56, .inl ((m_Turtles_setPart_w1 t_told parts 0 (2 * x)))))]) [0, 1] rfl
          have hDc := hD.sub (ws' := [(h0, .inr (5, [.ref t_parts, .ref t_dots, .int t_told, .ref t_start, .ref t_goal, .ref t_keptParts, .ref t_keptDots, .int t_keptTold])), (t_parts, .inl (cI, 56, .inl ((m_Turtles_setPart_w1 t_told parts 0 (2 * x)))))]) [0, 1] (by decide) rfl
          have hKc := hK.sub (tys' := [(cI, .int)]) [0] rfl
          have hFc := va_free (wc := [(h0, .inr (5, [.ref t_parts, .ref t_dots, .int t_told, .ref t_start, .ref t_goal, .ref t_keptParts, .ref t_keptDots, .int t_keptTold])), (t_parts, .inl (cI, 56, .inl ((m_Turtles_setPart_w1 t_told parts 0 (2 * x)))))]) hD hS hA [0, 1] rfl
          refine va_callv (va_runV (As := [.int 1, .int 0]) (rest := []) ⟨hx, hb, hml, hown, hts⟩ (c_Turtles_setPart l dC dI H.size h0 t_parts t_dots t_told t_start t_goal t_keptParts t_keptDots t_keptTold cI (m_Turtles_setPart_w1 t_told parts 0 (2 * x)) 1 0) (cwV 2 hts (tw_GV tw_cons cw_Turtles_setPart lk_Turtles_122 in_Turtles_setPart sel_Turtles_setPart ini_Turtles) rfl rfl rfl (by decide +kernel) ⟨Nat.le_of_ble_eq_true rfl, Nat.le_of_ble_eq_true rfl⟩) ⟨fun a U g mk q => by obtain ⟨q0, q1, qP, qK, qD⟩ := q; exact ⟨q0, q1, qP, va_K.moved (u := U) (U := U.calling g mk a) (Vm.Alike.refl U.vm) qK, qD⟩, va_recv hKc hPc (ci := 5) (q0 := 0) rfl rfl, fun U hU hW => ⟨rfl, by rw [hU], by rw [hU]; exact hPc, va_K.moved hW.alike hKc, hDc.weaken (fun _ _ _ _ => trivial)⟩⟩ rfl rfl hl.1 rfl (lv_room (Nat.le_of_ble_eq_true rfl)) d_Turtles_putAt_42 ⟨Nat.le_of_ble_eq_true rfl, Nat.le_of_ble_eq_true rfl⟩) hS (fun q _ h => hFc q h) hFc (fun u9 t9 H1 locs ht hvm e9 hB hz1 hk1 hS => ?_)
          obtain ⟨hP1, hK1, hD1⟩ := hB
          rw [ht] at hP1
          obtain ⟨hP, hD⟩ := va_join (wr := []) (w1 := [(h0, .inr (5, [.ref t_parts, .ref t_dots, .int t_told, .ref t_start, .ref t_goal, .ref t_keptParts, .ref t_keptDots, .int t_keptTold])), (t_parts, .inl (cI, 56, .inl (m_Turtles_setPart_w1 t_told (m_Turtles_setPart_w1 t_told parts 0 (2 * x)) 1 0)))]) hP hD [0, 1] [] rfl rfl (by decide) (by decide) hk1 hFc hP1 hD1
          clear hP1 hD1 hK1 hvm hz1 hk1 hFc hKc hDc hPc
          subst ht
          generalize t9.heap = H at hP hS ⊢
          have hP : va_P (dC, dI) classes [(h0, .inr (5, [.ref t_parts, .ref t_dots, .int t_told, .ref t_start, .ref t_goal, .ref t_keptParts, .ref t_keptDots, .int t_keptTold])), (t_parts, .inl (cI, 56, .inl (m_Turtles_setPart_w1 t_told (m_Turtles_setPart_w1 t_told parts 0 (2 * x)) 1 0)))] H := hP
          have hD : va_D A [(h0, .inr (5, [.ref t_parts, .ref t_dots, .int t_told, .ref t_start, .ref t_goal, .ref t_keptParts, .ref t_keptDots, .int t_keptTold])), (t_parts, .inl (cI, 56, .inl (m_Turtles_setPart_w1 t_told (m_Turtles_setPart_w1 t_told parts 0 (2 * x)) 1 0)))] := hD
          refine lv_aload_n hx hb d_Turtles_putAt_45 rfl (lv_at hl 0 rfl) ?_
          refine lv_iconst (v := 2) hx hb d_Turtles_putAt_46 (by decide) ?_
          refine lv_iconst (v := 2) hx hb d_Turtles_putAt_47 (by decide) ?_
          refine lv_iload_n hx hb d_Turtles_putAt_48 rfl (lv_at hl 2 rfl) ?_
          refine lv_imul hx hb d_Turtles_putAt_49 ?_
          have hPc := hP.sub (ws' := [(h0, .inr (5, [.ref t_parts, .ref t_dots, .int t_told, .ref t_start, .ref t_goal, .ref t_keptParts, .ref t_keptDots, .int t_keptTold])), (t_parts, .inl (cI, 56, .inl ((m_Turtles_setPart_w1 t_told (m_Turtles_setPart_w1 t_told parts 0 (2 * x)) 1 0))))]) [0, 1] rfl
          have hDc := hD.sub (ws' := [(h0, .inr (5, [.ref t_parts, .ref t_dots, .int t_told, .ref t_start, .ref t_goal, .ref t_keptParts, .ref t_keptDots, .int t_keptTold])), (t_parts, .inl (cI, 56, .inl ((m_Turtles_setPart_w1 t_told (m_Turtles_setPart_w1 t_told parts 0 (2 * x)) 1 0))))]) [0, 1] (by decide) rfl
          have hKc := hK.sub (tys' := [(cI, .int)]) [0] rfl
          have hFc := va_free (wc := [(h0, .inr (5, [.ref t_parts, .ref t_dots, .int t_told, .ref t_start, .ref t_goal, .ref t_keptParts, .ref t_keptDots, .int t_keptTold])), (t_parts, .inl (cI, 56, .inl ((m_Turtles_setPart_w1 t_told (m_Turtles_setPart_w1 t_told parts 0 (2 * x)) 1 0))))]) hD hS hA [0, 1] rfl
          refine va_callv (va_runV (As := [.int 2, .int (2 * y)]) (rest := []) ⟨hx, hb, hml, hown, hts⟩ (c_Turtles_setPart l dC dI H.size h0 t_parts t_dots t_told t_start t_goal t_keptParts t_keptDots t_keptTold cI (m_Turtles_setPart_w1 t_told (m_Turtles_setPart_w1 t_told parts 0 (2 * x)) 1 0) 2 (2 * y)) (cwV 2 hts (tw_GV tw_cons cw_Turtles_setPart lk_Turtles_122 in_Turtles_setPart sel_Turtles_setPart ini_Turtles) rfl rfl rfl (by decide +kernel) ⟨Nat.le_of_ble_eq_true rfl, Nat.le_of_ble_eq_true rfl⟩) ⟨fun a U g mk q => by obtain ⟨q0, q1, qP, qK, qD⟩ := q; exact ⟨q0, q1, qP, va_K.moved (u := U) (U := U.calling g mk a) (Vm.Alike.refl U.vm) qK, qD⟩, va_recv hKc hPc (ci := 5) (q0 := 0) rfl rfl, fun U hU hW => ⟨rfl, by rw [hU], by rw [hU]; exact hPc, va_K.moved hW.alike hKc, hDc.weaken (fun _ _ _ _ => trivial)⟩⟩ rfl rfl hl.1 rfl (lv_room (Nat.le_of_ble_eq_true rfl)) d_Turtles_putAt_50 ⟨Nat.le_of_ble_eq_true rfl, Nat.le_of_ble_eq_true rfl⟩) hS (fun q _ h => hFc q h) hFc (fun u9 t9 H1 locs ht hvm e9 hB hz1 hk1 hS => ?_)
          obtain ⟨hP1, hK1, hD1⟩ := hB
          rw [ht] at hP1
          obtain ⟨hP, hD⟩ := va_join (wr := []) (w1 := [(h0, .inr (5, [.ref t_parts, .ref t_dots, .int t_told, .ref t_start, .ref t_goal, .ref t_keptParts, .ref t_keptDots, .int t_keptTold])), (t_parts, .inl (cI, 56, .inl (m_Turtles_setPart_w1 t_told (m_Turtles_setPart_w1 t_told (m_Turtles_setPart_w1 t_told parts 0 (2 * x)) 1 0) 2 (2 * y))))]) hP hD [0, 1] [] rfl rfl (by decide) (by decide) hk1 hFc hP1 hD1
          clear hP1 hD1 hK1 hvm hz1 hk1 hFc hKc hDc hPc
          subst ht
          generalize t9.heap = H at hP hS ⊢
          have hP : va_P (dC, dI) classes [(h0, .inr (5, [.ref t_parts, .ref t_dots, .int t_told, .ref t_start, .ref t_goal, .ref t_keptParts, .ref t_keptDots, .int t_keptTold])), (t_parts, .inl (cI, 56, .inl (m_Turtles_setPart_w1 t_told (m_Turtles_setPart_w1 t_told (m_Turtles_setPart_w1 t_told parts 0 (2 * x)) 1 0) 2 (2 * y))))] H := hP
          have hD : va_D A [(h0, .inr (5, [.ref t_parts, .ref t_dots, .int t_told, .ref t_start, .ref t_goal, .ref t_keptParts, .ref t_keptDots, .int t_keptTold])), (t_parts, .inl (cI, 56, .inl (m_Turtles_setPart_w1 t_told (m_Turtles_setPart_w1 t_told (m_Turtles_setPart_w1 t_told parts 0 (2 * x)) 1 0) 2 (2 * y))))] := hD
          refine lv_aload_n hx hb d_Turtles_putAt_53 rfl (lv_at hl 0 rfl) ?_
          refine lv_iconst (v := 3) hx hb d_Turtles_putAt_54 (by decide) ?_
          refine lv_iconst (v := 0) hx hb d_Turtles_putAt_55 (by decide) ?_
          have hPc := hP.sub (ws' := [(h0, .inr (5, [.ref t_parts, .ref t_dots, .int t_told, .ref t_start, .ref t_goal, .ref t_keptParts, .ref t_keptDots, .int t_keptTold])), (t_parts, .inl (cI, 56, .inl ((m_Turtles_setPart_w1 t_told (m_Turtles_setPart_w1 t_told (m_Turtles_setPart_w1 t_told parts 0 (2 * x)) 1 0) 2 (2 * y)))))]) [0, 1] rfl
          have hDc := hD.sub (ws' := [(h0, .inr (5, [.ref t_parts, .ref t_dots, .int t_told, .ref t_start, .ref t_goal, .ref t_keptParts, .ref t_keptDots, .int t_keptTold])), (t_parts, .inl (cI, 56, .inl ((m_Turtles_setPart_w1 t_told (m_Turtles_setPart_w1 t_told (m_Turtles_setPart_w1 t_told parts 0 (2 * x)) 1 0) 2 (2 * y)))))]) [0, 1] (by decide) rfl
          have hKc := hK.sub (tys' := [(cI, .int)]) [0] rfl
          have hFc := va_free (wc := [(h0, .inr (5, [.ref t_parts, .ref t_dots, .int t_told, .ref t_start, .ref t_goal, .ref t_keptParts, .ref t_keptDots, .int t_keptTold])), (t_parts, .inl (cI, 56, .inl ((m_Turtles_setPart_w1 t_told (m_Turtles_setPart_w1 t_told (m_Turtles_setPart_w1 t_told parts 0 (2 * x)) 1 0) 2 (2 * y)))))]) hD hS hA [0, 1] rfl
          refine va_callv (va_runV (As := [.int 3, .int 0]) (rest := []) ⟨hx, hb, hml, hown, hts⟩ (c_Turtles_setPart l dC dI H.size h0 t_parts t_dots t_told t_start t_goal t_keptParts t_keptDots t_keptTold cI (m_Turtles_setPart_w1 t_told (m_Turtles_setPart_w1 t_told (m_Turtles_setPart_w1 t_told parts 0 (2 * x)) 1 0) 2 (2 * y)) 3 0) (cwV 2 hts (tw_GV tw_cons cw_Turtles_setPart lk_Turtles_122 in_Turtles_setPart sel_Turtles_setPart ini_Turtles) rfl rfl rfl (by decide +kernel) ⟨Nat.le_of_ble_eq_true rfl, Nat.le_of_ble_eq_true rfl⟩) ⟨fun a U g mk q => by obtain ⟨q0, q1, qP, qK, qD⟩ := q; exact ⟨q0, q1, qP, va_K.moved (u := U) (U := U.calling g mk a) (Vm.Alike.refl U.vm) qK, qD⟩, va_recv hKc hPc (ci := 5) (q0 := 0) rfl rfl, fun U hU hW => ⟨rfl, by rw [hU], by rw [hU]; exact hPc, va_K.moved hW.alike hKc, hDc.weaken (fun _ _ _ _ => trivial)⟩⟩ rfl rfl hl.1 rfl (lv_room (Nat.le_of_ble_eq_true rfl)) d_Turtles_putAt_56 ⟨Nat.le_of_ble_eq_true rfl, Nat.le_of_ble_eq_true rfl⟩) hS (fun q _ h => hFc q h) hFc (fun u9 t9 H1 locs ht hvm e9 hB hz1 hk1 hS => ?_)
          obtain ⟨hP1, hK1, hD1⟩ := hB
          rw [ht] at hP1
          obtain ⟨hP, hD⟩ := va_join (wr := []) (w1 := [(h0, .inr (5, [.ref t_parts, .ref t_dots, .int t_told, .ref t_start, .ref t_goal, .ref t_keptParts, .ref t_keptDots, .int t_keptTold])), (t_parts, .inl (cI, 56, .inl (m_Turtles_setPart_w1 t_told (m_Turtles_setPart_w1 t_told (m_Turtles_setPart_w1 t_told (m_Turtles_setPart_w1 t_told parts 0 (2 * x)) 1 0) 2 (2 * y)) 3 0)))]) hP hD [0, 1] [] rfl rfl (by decide) (by decide) hk1 hFc hP1 hD1
          clear hP1 hD1 hK1 hvm hz1 hk1 hFc hKc hDc hPc
          subst ht
          generalize t9.heap = H at hP hS ⊢
          have hP : va_P (dC, dI) classes [(h0, .inr (5, [.ref t_parts, .ref t_dots, .int t_told, .ref t_start, .ref t_goal, .ref t_keptParts, .ref t_keptDots, .int t_keptTold])), (t_parts, .inl (cI, 56, .inl (m_Turtles_setPart_w1 t_told (m_Turtles_setPart_w1 t_told (m_Turtles_setPart_w1 t_told (m_Turtles_setPart_w1 t_told parts 0 (2 * x)) 1 0) 2 (2 * y)) 3 0)))] H := hP
          have hD : va_D A [(h0, .inr (5, [.ref t_parts, .ref t_dots, .int t_told, .ref t_start, .ref t_goal, .ref t_keptParts, .ref t_keptDots, .int t_keptTold])), (t_parts, .inl (cI, 56, .inl (m_Turtles_setPart_w1 t_told (m_Turtles_setPart_w1 t_told (m_Turtles_setPart_w1 t_told (m_Turtles_setPart_w1 t_told parts 0 (2 * x)) 1 0) 2 (2 * y)) 3 0)))] := hD
          refine lv_ldc (v := (-2147483648)) hx hb hown (htt _ lk_Turtles_83) d_Turtles_putAt_59 ?_
          have hP9 := hP.sub (ws' := [(h0, .inr (5, [.ref t_parts, .ref t_dots, .int t_told, .ref t_start, .ref t_goal, .ref t_keptParts, .ref t_keptDots, .int t_keptTold])), (t_parts, .inl (cI, 56, .inl (m_Turtles_setPart_w1 t_told (m_Turtles_setPart_w1 t_told (m_Turtles_setPart_w1 t_told (m_Turtles_setPart_w1 t_told parts 0 (2 * x)) 1 0) 2 (2 * y)) 3 0)))]) [0, 1] rfl
          have hD9 := hD.sub (ws' := [(h0, .inr (5, [.ref t_parts, .ref t_dots, .int t_told, .ref t_start, .ref t_goal, .ref t_keptParts, .ref t_keptDots, .int t_keptTold])), (t_parts, .inl (cI, 56, .inl (m_Turtles_setPart_w1 t_told (m_Turtles_setPart_w1 t_told (m_Turtles_setPart_w1 t_told (m_Turtles_setPart_w1 t_told parts 0 (2 * x)) 1 0) 2 (2 * y)) 3 0)))]) [0, 1] (by decide) rfl
          have eW : [(h0, .inr (5, [.ref t_parts, .ref t_dots, .int t_told, .ref t_start, .ref t_goal, .ref t_keptParts, .ref t_keptDots, .int t_keptTold])), (t_parts, .inl (cI, 56, .inl (m_Turtles_setPart_w1 t_told (m_Turtles_setPart_w1 t_told (m_Turtles_setPart_w1 t_told (m_Turtles_setPart_w1 t_told parts 0 (2 * x)) 1 0) 2 (2 * y)) 3 0)))] = ([(h0, .inr (5, [.ref t_parts, .ref t_dots, .int t_told, .ref t_start, .ref t_goal, .ref t_keptParts, .ref t_keptDots, .int t_keptTold])), (t_parts, .inl (cI, 56, .inl (m_Turtles_putAt_w1 t_told parts x y)))] : va_W) := by unfold m_Turtles_putAt_w1; simp only [if_neg c_1, if_neg c_2, if_neg c_3, if_pos c_4]
          rw [eW] at hP9 hD9
          exact W.iret (v := (-2147483648)) hx hb hr (fun t9 ht hW => ⟨⟨(-2147483648), (), rfl, by unfold m_Turtles_putAt_r; simp only [if_neg c_1, if_neg c_2, if_neg c_3, if_pos c_4], by rw [ht]; exact hP9, va_K.moved hW.alike hK, hD9⟩, hS.F ht⟩) hS.2.2 d_Turtles_putAt_61
        · refine lv_ldc (v := (-2147483645)) hx hb hown (htt _ lk_Turtles_62) d_Turtles_putAt_28 ?_
          have hP9 := hP.sub (ws' := [(h0, .inr (5, [.ref t_parts, .ref t_dots, .int t_told, .ref t_start, .ref t_goal, .ref t_keptParts, .ref t_keptDots, .int t_keptTold])), (t_parts, .inl (cI, 56, .inl parts))]) [0, 1] rfl
          have hD9 := hD.sub (ws' := [(h0, .inr (5, [.ref t_parts, .ref t_dots, .int t_told, .ref t_start, .ref t_goal, .ref t_keptParts, .ref t_keptDots, .int t_keptTold])), (t_parts, .inl (cI, 56, .inl parts))]) [0, 1] (by decide) rfl
          have eW : [(h0, .inr (5, [.ref t_parts, .ref t_dots, .int t_told, .ref t_start, .ref t_goal, .ref t_keptParts, .ref t_keptDots, .int t_keptTold])), (t_parts, .inl (cI, 56, .inl parts))] = ([(h0, .inr (5, [.ref t_parts, .ref t_dots, .int t_told, .ref t_start, .ref t_goal, .ref t_keptParts, .ref t_keptDots, .int t_keptTold])), (t_parts, .inl (cI, 56, .inl (m_Turtles_putAt_w1 t_told parts x y)))] : va_W) := by unfold m_Turtles_putAt_w1; simp only [if_neg c_1, if_neg c_2, if_neg c_3, if_neg c_4]
          rw [eW] at hP9 hD9
          exact W.iret (v := (-2147483645)) hx hb hr (fun t9 ht hW => ⟨⟨(-2147483645), (), rfl, by unfold m_Turtles_putAt_r; simp only [if_neg c_1, if_neg c_2, if_neg c_3, if_neg c_4], by rw [ht]; exact hP9, va_K.moved hW.alike hK, hD9⟩, hS.F ht⟩) hS.2.2 d_Turtles_putAt_30

def m_Turtles_goHome_r  : Int32 := m_Turtles_putAt_r 0 0
def m_Turtles_goHome_w1 (t_told : Int32) (parts : Nat → Int32) : Nat → Int32 := m_Turtles_putAt_w1 t_told (m_Turtles_setPart_w1 t_told parts 4 0) 0 0
set_option maxHeartbeats 4000000 in
set_option maxRecDepth 100000 in
theorem c_Turtles_goHome (l : Launch) (dC : Nat → ClassId) (dI : Nat → Nat → Nat) (sz : Nat) (h0 : Nat) (t_parts : Nat) (t_dots : Nat) (t_told : Int32) (t_start : Nat) (t_goal : Nat) (t_keptParts : Nat) (t_keptDots : Nat) (t_keptTold : Int32) (cI : ClassId) (parts : Nat → Int32)  : Met l y_Turtles_goHome w_Turtles_goHome ({ frames := 3, cells := 0, slots := 0, locals := 64 }) (va_Pc [.ref h0] (fun U => U.heap.size = sz ∧ va_P (dC, dI) classes [(h0, .inr (5, [.ref t_parts, .ref t_dots, .int t_told, .ref t_start, .ref t_goal, .ref t_keptParts, .ref t_keptDots, .int t_keptTold])), (t_parts, .inl (cI, 56, .inl parts))] U.heap ∧ va_K (dC, dI) classes [(cI, .int)] U ∧ va_D (fun _ => True) [(h0, .inr (5, [.ref t_parts, .ref t_dots, .int t_told, .ref t_start, .ref t_goal, .ref t_keptParts, .ref t_keptDots, .int t_keptTold])), (t_parts, .inl (cI, 56, .inl parts))])) (va_Qi (fun (r : Int32) (_ : Unit) => r = m_Turtles_goHome_r) (fun (_ : Unit) t => va_P (dC, dI) classes [(h0, .inr (5, [.ref t_parts, .ref t_dots, .int t_told, .ref t_start, .ref t_goal, .ref t_keptParts, .ref t_keptDots, .int t_keptTold])), (t_parts, .inl (cI, 56, .inl (m_Turtles_goHome_w1 t_told parts)))] t.heap ∧ va_K (dC, dI) classes [(cI, .int)] t ∧ va_D (va_A [(h0, .inr (5, [.ref t_parts, .ref t_dots, .int t_told, .ref t_start, .ref t_goal, .ref t_keptParts, .ref t_keptDots, .int t_keptTold])), (t_parts, .inl (cI, 56, .inl parts))] sz) [(h0, .inr (5, [.ref t_parts, .ref t_dots, .int t_told, .ref t_start, .ref t_goal, .ref t_keptParts, .ref t_keptDots, .int t_keptTold])), (t_parts, .inl (cI, 56, .inl (m_Turtles_goHome_w1 t_told parts)))]) (va_A [(h0, .inr (5, [.ref t_parts, .ref t_dots, .int t_told, .ref t_start, .ref t_goal, .ref t_keptParts, .ref t_keptDots, .int t_keptTold])), (t_parts, .inl (cI, 56, .inl parts))] sz)) 0 0 (va_A [(h0, .inr (5, [.ref t_parts, .ref t_dots, .int t_told, .ref t_start, .ref t_goal, .ref t_keptParts, .ref t_keptDots, .int t_keptTold])), (t_parts, .inl (cI, 56, .inl parts))] sz) := by
  refine Met.ofW (cc := b_Turtles_goHome) (maxL := 1) (ret := (some .int)) (by decide) rfl ?_
  intro p e s m args below meth c s₁ B hml hv
  obtain ⟨rfl, hsz, hP, hK, hD0⟩ := hv
  have hx := B.exec
  have hb := B.bytes
  have hr := B.returns
  have hts := atoms_spec (ws := w_Turtles_goHome) B.pre
  have htt : ∀ w ∈ tw_T, w.before _ s = true := fun w h => hts w (List.mem_cons_of_mem _ h)
  have hown : s.vm.findClass R_Turtles = some m.cls := findClass_of_methodNamed B.named
  have hlocks := B.notSynchronized
  subst hsz
  have hD := hD0.self (sz := s.heap.size)
  generalize hAe : va_A [(h0, .inr (5, [.ref t_parts, .ref t_dots, .int t_told, .ref t_start, .ref t_goal, .ref t_keptParts, .ref t_keptDots, .int t_keptTold])), (t_parts, .inl (cI, 56, .inl parts))] s.heap.size = A at hD ⊢
  have hA : ∀ q : Nat, s.heap.size ≤ q → A q := fun q h => by rw [← hAe]; exact Or.inr h
  have hS : va_S A s.heap s.heap [] := va_S.rf
  have hP : va_P (dC, dI) classes [(h0, .inr (5, [.ref t_parts, .ref t_dots, .int t_told, .ref t_start, .ref t_goal, .ref t_keptParts, .ref t_keptDots, .int t_keptTold])), (t_parts, .inl (cI, 56, .inl parts))] s.heap := hP
  have hl := lv_entry ([.ref h0]) (n := 1) (Nat.le_of_ble_eq_true rfl)
  rw [lg_entry_eq]
  generalize (lg_sl ([.ref h0]) ++ List.replicate (1 - (lg_sl ([.ref h0])).length) Slot.unset).toArray = ls at hl ⊢
  have hl : lv_has ls 1 [(0, .ref h0)] := hl
  refine lv_aload_n hx hb d_Turtles_goHome_0 rfl (lv_at hl 0 rfl) ?_
  refine lv_iconst (v := 4) hx hb d_Turtles_goHome_1 (by decide) ?_
  refine lv_iconst (v := 0) hx hb d_Turtles_goHome_2 (by decide) ?_
  have hPc := hP.sub (ws' := [(h0, .inr (5, [.ref t_parts, .ref t_dots, .int t_told, .ref t_start, .ref t_goal, .ref t_keptParts, .ref t_keptDots, .int t_keptTold])), (t_parts, .inl (cI, 56, .inl parts))]) [0, 1] rfl
  have hDc := hD.sub (ws' := [(h0, .inr (5, [.ref t_parts, .ref t_dots, .int t_told, .ref t_start, .ref t_goal, .ref t_keptParts, .ref t_keptDots, .int t_keptTold])), (t_parts, .inl (cI, 56, .inl parts))]) [0, 1] (by decide) rfl
  have hKc := hK.sub (tys' := [(cI, .int)]) [0] rfl
  have hFc := va_free (wc := [(h0, .inr (5, [.ref t_parts, .ref t_dots, .int t_told, .ref t_start, .ref t_goal, .ref t_keptParts, .ref t_keptDots, .int t_keptTold])), (t_parts, .inl (cI, 56, .inl parts))]) hD hS hA [0, 1] rfl
  refine va_callv (va_runV (As := [.int 4, .int 0]) (rest := []) ⟨hx, hb, hml, hown, hts⟩ (c_Turtles_setPart l dC dI s.heap.size h0 t_parts t_dots t_told t_start t_goal t_keptParts t_keptDots t_keptTold cI parts 4 0) (cwV 2 hts (tw_GV tw_cons cw_Turtles_setPart lk_Turtles_122 in_Turtles_setPart sel_Turtles_setPart ini_Turtles) rfl rfl rfl (by decide +kernel) ⟨Nat.le_of_ble_eq_true rfl, Nat.le_of_ble_eq_true rfl⟩) ⟨fun a U g mk q => by obtain ⟨q0, q1, qP, qK, qD⟩ := q; exact ⟨q0, q1, qP, va_K.moved (u := U) (U := U.calling g mk a) (Vm.Alike.refl U.vm) qK, qD⟩, va_recv hKc hPc (ci := 5) (q0 := 0) rfl rfl, fun U hU hW => ⟨rfl, by rw [hU], by rw [hU]; exact hPc, va_K.moved hW.alike hKc, hDc.weaken (fun _ _ _ _ => trivial)⟩⟩ rfl rfl hl.1 rfl (lv_room (Nat.le_of_ble_eq_true rfl)) d_Turtles_goHome_3 ⟨Nat.le_of_ble_eq_true rfl, Nat.le_of_ble_eq_true rfl⟩) hS (fun q _ h => hFc q h) hFc (fun u9 t9 H1 locs ht hvm e9 hB hz1 hk1 hS => ?_)
  obtain ⟨hP1, hK1, hD1⟩ := hB
  rw [ht] at hP1
  obtain ⟨hP, hD⟩ := va_join (wr := []) (w1 := [(h0, .inr (5, [.ref t_parts, .ref t_dots, .int t_told, .ref t_start, .ref t_goal, .ref t_keptParts, .ref t_keptDots, .int t_keptTold])), (t_parts, .inl (cI, 56, .inl (m_Turtles_setPart_w1 t_told parts 4 0)))]) hP hD [0, 1] [] rfl rfl (by decide) (by decide) hk1 hFc hP1 hD1
  clear hP1 hD1 hK1 hvm hz1 hk1 hFc hKc hDc hPc
  subst ht
  generalize t9.heap = H at hP hS ⊢
  have hP : va_P (dC, dI) classes [(h0, .inr (5, [.ref t_parts, .ref t_dots, .int t_told, .ref t_start, .ref t_goal, .ref t_keptParts, .ref t_keptDots, .int t_keptTold])), (t_parts, .inl (cI, 56, .inl (m_Turtles_setPart_w1 t_told parts 4 0)))] H := hP
  have hD : va_D A [(h0, .inr (5, [.ref t_parts, .ref t_dots, .int t_told, .ref t_start, .ref t_goal, .ref t_keptParts, .ref t_keptDots, .int t_keptTold])), (t_parts, .inl (cI, 56, .inl (m_Turtles_setPart_w1 t_told parts 4 0)))] := hD
  refine lv_aload_n hx hb d_Turtles_goHome_6 rfl (lv_at hl 0 rfl) ?_
  refine lv_iconst (v := 0) hx hb d_Turtles_goHome_7 (by decide) ?_
  refine lv_iconst (v := 0) hx hb d_Turtles_goHome_8 (by decide) ?_
  have hPc := hP.sub (ws' := [(h0, .inr (5, [.ref t_parts, .ref t_dots, .int t_told, .ref t_start, .ref t_goal, .ref t_keptParts, .ref t_keptDots, .int t_keptTold])), (t_parts, .inl (cI, 56, .inl ((m_Turtles_setPart_w1 t_told parts 4 0))))]) [0, 1] rfl
  have hDc := hD.sub (ws' := [(h0, .inr (5, [.ref t_parts, .ref t_dots, .int t_told, .ref t_start, .ref t_goal, .ref t_keptParts, .ref t_keptDots, .int t_keptTold])), (t_parts, .inl (cI, 56, .inl ((m_Turtles_setPart_w1 t_told parts 4 0))))]) [0, 1] (by decide) rfl
  have hKc := hK.sub (tys' := [(cI, .int)]) [0] rfl
  have hFc := va_free (wc := [(h0, .inr (5, [.ref t_parts, .ref t_dots, .int t_told, .ref t_start, .ref t_goal, .ref t_keptParts, .ref t_keptDots, .int t_keptTold])), (t_parts, .inl (cI, 56, .inl ((m_Turtles_setPart_w1 t_told parts 4 0))))]) hD hS hA [0, 1] rfl
  refine va_calli (va_runV (As := [.int 0, .int 0]) (rest := []) ⟨hx, hb, hml, hown, hts⟩ (c_Turtles_putAt l dC dI H.size h0 t_parts t_dots t_told t_start t_goal t_keptParts t_keptDots t_keptTold cI (m_Turtles_setPart_w1 t_told parts 4 0) 0 0) (cwV 2 hts (tw_GV tw_cons cw_Turtles_putAt lk_Turtles_128 in_Turtles_putAt sel_Turtles_putAt ini_Turtles) rfl rfl rfl (by decide +kernel) ⟨Nat.le_of_ble_eq_true rfl, Nat.le_of_ble_eq_true rfl⟩) ⟨fun a U g mk q => by obtain ⟨q0, q1, qP, qK, qD⟩ := q; exact ⟨q0, q1, qP, va_K.moved (u := U) (U := U.calling g mk a) (Vm.Alike.refl U.vm) qK, qD⟩, va_recv hKc hPc (ci := 5) (q0 := 0) rfl rfl, fun U hU hW => ⟨rfl, by rw [hU], by rw [hU]; exact hPc, va_K.moved hW.alike hKc, hDc.weaken (fun _ _ _ _ => trivial)⟩⟩ rfl rfl hl.1 rfl (lv_room (Nat.le_of_ble_eq_true rfl)) d_Turtles_goHome_9 ⟨Nat.le_of_ble_eq_true rfl, Nat.le_of_ble_eq_true rfl⟩) hS (fun q _ h => hFc q h) hFc (fun r9 u9 t9 H1 locs ht hvm e9 hB hz1 hk1 hS => ?_)
  obtain ⟨hP1, hK1, hD1⟩ := hB
  rw [ht] at hP1
  obtain ⟨hP, hD⟩ := va_join (wr := []) (w1 := [(h0, .inr (5, [.ref t_parts, .ref t_dots, .int t_told, .ref t_start, .ref t_goal, .ref t_keptParts, .ref t_keptDots, .int t_keptTold])), (t_parts, .inl (cI, 56, .inl (m_Turtles_putAt_w1 t_told (m_Turtles_setPart_w1 t_told parts 4 0) 0 0)))]) hP hD [0, 1] [] rfl rfl (by decide) (by decide) hk1 hFc hP1 hD1
  subst e9
  clear hP1 hD1 hK1 hvm hz1 hk1 hFc hKc hDc hPc
  subst ht
  generalize t9.heap = H at hP hS ⊢
  have hP : va_P (dC, dI) classes [(h0, .inr (5, [.ref t_parts, .ref t_dots, .int t_told, .ref t_start, .ref t_goal, .ref t_keptParts, .ref t_keptDots, .int t_keptTold])), (t_parts, .inl (cI, 56, .inl (m_Turtles_putAt_w1 t_told (m_Turtles_setPart_w1 t_told parts 4 0) 0 0)))] H := hP
  have hD : va_D A [(h0, .inr (5, [.ref t_parts, .ref t_dots, .int t_told, .ref t_start, .ref t_goal, .ref t_keptParts, .ref t_keptDots, .int t_keptTold])), (t_parts, .inl (cI, 56, .inl (m_Turtles_putAt_w1 t_told (m_Turtles_setPart_w1 t_told parts 4 0) 0 0)))] := hD
  have hP9 := hP.sub (ws' := [(h0, .inr (5, [.ref t_parts, .ref t_dots, .int t_told, .ref t_start, .ref t_goal, .ref t_keptParts, .ref t_keptDots, .int t_keptTold])), (t_parts, .inl (cI, 56, .inl (m_Turtles_putAt_w1 t_told (m_Turtles_setPart_w1 t_told parts 4 0) 0 0)))]) [0, 1] rfl
  have hD9 := hD.sub (ws' := [(h0, .inr (5, [.ref t_parts, .ref t_dots, .int t_told, .ref t_start, .ref t_goal, .ref t_keptParts, .ref t_keptDots, .int t_keptTold])), (t_parts, .inl (cI, 56, .inl (m_Turtles_putAt_w1 t_told (m_Turtles_setPart_w1 t_told parts 4 0) 0 0)))]) [0, 1] (by decide) rfl
  have eW : [(h0, .inr (5, [.ref t_parts, .ref t_dots, .int t_told, .ref t_start, .ref t_goal, .ref t_keptParts, .ref t_keptDots, .int t_keptTold])), (t_parts, .inl (cI, 56, .inl (m_Turtles_putAt_w1 t_told (m_Turtles_setPart_w1 t_told parts 4 0) 0 0)))] = ([(h0, .inr (5, [.ref t_parts, .ref t_dots, .int t_told, .ref t_start, .ref t_goal, .ref t_keptParts, .ref t_keptDots, .int t_keptTold])), (t_parts, .inl (cI, 56, .inl (m_Turtles_goHome_w1 t_told parts)))] : va_W) := by unfold m_Turtles_goHome_w1; rfl
  rw [eW] at hP9 hD9
  exact W.iret (v := m_Turtles_putAt_r 0 0) hx hb hr (fun t9 ht hW => ⟨⟨m_Turtles_putAt_r 0 0, (), rfl, by unfold m_Turtles_goHome_r; rfl, by rw [ht]; exact hP9, va_K.moved hW.alike hK, hD9⟩, hS.F ht⟩) hS.2.2 d_Turtles_goHome_12

def m_Turtles_mean_r (k : Int32) : Int32 := if ((ts_exists k)) = ((0 : Int32)) then (-2147483645) else (-2147483648)
def m_Turtles_mean_w0_2 (t_told : Int32) (k : Int32) : Int32 := if ((ts_exists k)) = ((0 : Int32)) then t_told else k
set_option maxHeartbeats 4000000 in
set_option maxRecDepth 100000 in
theorem c_Turtles_mean (l : Launch) (dC : Nat → ClassId) (dI : Nat → Nat → Nat) (sz : Nat) (h0 : Nat) (t_parts : Nat) (t_dots : Nat) (t_told : Int32) (t_start : Nat) (t_goal : Nat) (t_keptParts : Nat) (t_keptDots : Nat) (t_keptTold : Int32) (k : Int32)  : Met l y_Turtles_mean w_Turtles_mean ({ frames := 1, cells := 0, slots := 0, locals := 20 }) (va_Pc [.ref h0, .int k] (fun U => U.heap.size = sz ∧ va_P (dC, dI) classes [(h0, .inr (5, [.ref t_parts, .ref t_dots, .int t_told, .ref t_start, .ref t_goal, .ref t_keptParts, .ref t_keptDots, .int t_keptTold]))] U.heap ∧ va_K (dC, dI) classes [] U ∧ va_D (fun _ => True) [(h0, .inr (5, [.ref t_parts, .ref t_dots, .int t_told, .ref t_start, .ref t_goal, .ref t_keptParts, .ref t_keptDots, .int t_keptTold]))])) (va_Qi (fun (r : Int32) (_ : Unit) => r = m_Turtles_mean_r k) (fun (_ : Unit) t => va_P (dC, dI) classes [(h0, .inr (5, [.ref t_parts, .ref t_dots, .int (m_Turtles_mean_w0_2 t_told k), .ref t_start, .ref t_goal, .ref t_keptParts, .ref t_keptDots, .int t_keptTold]))] t.heap ∧ va_K (dC, dI) classes [] t ∧ va_D (va_A [(h0, .inr (5, [.ref t_parts, .ref t_dots, .int t_told, .ref t_start, .ref t_goal, .ref t_keptParts, .ref t_keptDots, .int t_keptTold]))] sz) [(h0, .inr (5, [.ref t_parts, .ref t_dots, .int (m_Turtles_mean_w0_2 t_told k), .ref t_start, .ref t_goal, .ref t_keptParts, .ref t_keptDots, .int t_keptTold]))]) (va_A [(h0, .inr (5, [.ref t_parts, .ref t_dots, .int t_told, .ref t_start, .ref t_goal, .ref t_keptParts, .ref t_keptDots, .int t_keptTold]))] sz)) 0 0 (va_A [(h0, .inr (5, [.ref t_parts, .ref t_dots, .int t_told, .ref t_start, .ref t_goal, .ref t_keptParts, .ref t_keptDots, .int t_keptTold]))] sz) := by
  refine Met.ofW (cc := b_Turtles_mean) (maxL := 2) (ret := (some .int)) (by decide) rfl ?_
  intro p e s m args below meth c s₁ B hml hv
  obtain ⟨rfl, hsz, hP, hK, hD0⟩ := hv
  have hx := B.exec
  have hb := B.bytes
  have hr := B.returns
  have hts := atoms_spec (ws := w_Turtles_mean) B.pre
  have htt : ∀ w ∈ tw_T, w.before _ s = true := fun w h => hts w (List.mem_cons_of_mem _ h)
  have hown : s.vm.findClass R_Turtles = some m.cls := findClass_of_methodNamed B.named
  have hlocks := B.notSynchronized
  subst hsz
  have hD := hD0.self (sz := s.heap.size)
  generalize hAe : va_A [(h0, .inr (5, [.ref t_parts, .ref t_dots, .int t_told, .ref t_start, .ref t_goal, .ref t_keptParts, .ref t_keptDots, .int t_keptTold]))] s.heap.size = A at hD ⊢
  have hA : ∀ q : Nat, s.heap.size ≤ q → A q := fun q h => by rw [← hAe]; exact Or.inr h
  have hS : va_S A s.heap s.heap [] := va_S.rf
  have hP : va_P (dC, dI) classes [(h0, .inr (5, [.ref t_parts, .ref t_dots, .int t_told, .ref t_start, .ref t_goal, .ref t_keptParts, .ref t_keptDots, .int t_keptTold]))] s.heap := hP
  have hl := lv_entry ([.ref h0, .int k]) (n := 2) (Nat.le_of_ble_eq_true rfl)
  rw [lg_entry_eq]
  generalize (lg_sl ([.ref h0, .int k]) ++ List.replicate (2 - (lg_sl ([.ref h0, .int k])).length) Slot.unset).toArray = ls at hl ⊢
  have hl : lv_has ls 2 [(0, .ref h0), (1, .int k)] := hl
  refine lv_iload_n hx hb d_Turtles_mean_0 rfl (lv_at hl 1 rfl) ?_
  have hPc := hP.sub (ws' := []) [] rfl
  have hDc := hD.sub (ws' := []) [] (by decide) rfl
  have hKc := hK.sub (tys' := []) [] rfl
  have hFc := va_free (wc := []) hD hS hA [] rfl
  refine va_calli (va_runS (As := [.int k]) (rest := []) ⟨hx, hb, hml, hown, hts⟩ (c_Turtles_exists l dC dI s.heap.size k) (va_cwS 1 hts (tw_GS tw_cons cw_Turtles_exists lk_Turtles_30 st_Turtles_exists ini_Turtles) rfl rfl rfl (by decide +kernel) ⟨Nat.le_of_ble_eq_true rfl, Nat.le_of_ble_eq_true rfl⟩) ⟨fun a U g mk q => by obtain ⟨q0, q1, qP, qK, qD⟩ := q; exact ⟨q0, q1, qP, va_K.moved (u := U) (U := U.calling g mk a) (Vm.Alike.refl U.vm) qK, qD⟩, fun U hU hW => ⟨rfl, by rw [hU], by rw [hU]; exact hPc, va_K.moved hW.alike hKc, hDc.weaken (fun _ _ _ _ => trivial)⟩⟩ rfl rfl hl.1 rfl (lv_room (Nat.le_of_ble_eq_true rfl)) d_Turtles_mean_1 ⟨Nat.le_of_ble_eq_true rfl, Nat.le_of_ble_eq_true rfl⟩) hS (fun q _ h => hFc q h) hFc (fun r9 u9 t9 H1 locs ht hvm e9 hB hz1 hk1 hS => ?_)
  obtain ⟨hP1, hK1, hD1⟩ := hB
  rw [ht] at hP1
  obtain ⟨hP, hD⟩ := va_join (wr := [(h0, .inr (5, [.ref t_parts, .ref t_dots, .int t_told, .ref t_start, .ref t_goal, .ref t_keptParts, .ref t_keptDots, .int t_keptTold]))]) (w1 := []) hP hD [] [0] rfl rfl (by decide) (by decide) hk1 hFc hP1 hD1
  subst e9
  clear hP1 hD1 hK1 hvm hz1 hk1 hFc hKc hDc hPc
  subst ht
  generalize t9.heap = H at hP hS ⊢
  have hP : va_P (dC, dI) classes [(h0, .inr (5, [.ref t_parts, .ref t_dots, .int t_told, .ref t_start, .ref t_goal, .ref t_keptParts, .ref t_keptDots, .int t_keptTold]))] H := hP
  have hD : va_D A [(h0, .inr (5, [.ref t_parts, .ref t_dots, .int t_told, .ref t_start, .ref t_goal, .ref t_keptParts, .ref t_keptDots, .int t_keptTold]))] := hD
  refine lv_if_ne (tgt := 10) hx hb d_Turtles_mean_4 (by decide) (fun c_1 => ?_) (fun c_1 => ?_)
  · refine lv_aload_n hx hb d_Turtles_mean_10 rfl (lv_at hl 0 rfl) ?_
    refine lv_iload_n hx hb d_Turtles_mean_11 rfl (lv_at hl 1 rfl) ?_
    refine va_put (D := (dC, dI)) (ci := 5) (v := .int k) (ty := .int) (C := R_Turtles) (T := F_Turtles) (N := 8) hx hb htt iw_Turtles t_Turtles t_Turtles_ok n_Turtles hown hK hP hD hS 0 rfl rfl 2 (by decide) (htt _ lk_Turtles_34) (fun _ h9 => h9) rfl (by decide +kernel) rfl rfl (Nat.le_of_ble_eq_true rfl) d_Turtles_mean_12 (fun H locs hP hD hS => ?_)
    have hP : va_P (dC, dI) classes [(h0, .inr (5, [.ref t_parts, .ref t_dots, .int k, .ref t_start, .ref t_goal, .ref t_keptParts, .ref t_keptDots, .int t_keptTold]))] H := hP
    have hD : va_D A [(h0, .inr (5, [.ref t_parts, .ref t_dots, .int k, .ref t_start, .ref t_goal, .ref t_keptParts, .ref t_keptDots, .int t_keptTold]))] := hD
    refine lv_ldc (v := (-2147483648)) hx hb hown (htt _ lk_Turtles_83) d_Turtles_mean_15 ?_
    have hP9 := hP.sub (ws' := [(h0, .inr (5, [.ref t_parts, .ref t_dots, .int k, .ref t_start, .ref t_goal, .ref t_keptParts, .ref t_keptDots, .int t_keptTold]))]) [0] rfl
    have hD9 := hD.sub (ws' := [(h0, .inr (5, [.ref t_parts, .ref t_dots, .int k, .ref t_start, .ref t_goal, .ref t_keptParts, .ref t_keptDots, .int t_keptTold]))]) [0] (by decide) rfl
    have eW : [(h0, .inr (5, [.ref t_parts, .ref t_dots, .int k, .ref t_start, .ref t_goal, .ref t_keptParts, .ref t_keptDots, .int t_keptTold]))] = ([(h0, .inr (5, [.ref t_parts, .ref t_dots, .int (m_Turtles_mean_w0_2 t_told k), .ref t_start, .ref t_goal, .ref t_keptParts, .ref t_keptDots, .int t_keptTold]))] : va_W) := by unfold m_Turtles_mean_w0_2; simp only [if_neg c_1]
    rw [eW] at hP9 hD9
    exact W.iret (v := (-2147483648)) hx hb hr (fun t9 ht hW => ⟨⟨(-2147483648), (), rfl, by unfold m_Turtles_mean_r; simp only [if_neg c_1], by rw [ht]; exact hP9, va_K.moved hW.alike hK, hD9⟩, hS.F ht⟩) hS.2.2 d_Turtles_mean_17
  · refine lv_ldc (v := (-2147483645)) hx hb hown (htt _ lk_Turtles_62) d_Turtles_mean_7 ?_
    have hP9 := hP.sub (ws' := [(h0, .inr (5, [.ref t_parts, .ref t_dots, .int t_told, .ref t_start, .ref t_goal, .ref t_keptParts, .ref t_keptDots, .int t_keptTold]))]) [0] rfl
    have hD9 := hD.sub (ws' := [(h0, .inr (5, [.ref t_parts, .ref t_dots, .int t_told, .ref t_start, .ref t_goal, .ref t_keptParts, .ref t_keptDots, .int t_keptTold]))]) [0] (by decide) rfl
    have eW : [(h0, .inr (5, [.ref t_parts, .ref t_dots, .int t_told, .ref t_start, .ref t_goal, .ref t_keptParts, .ref t_keptDots, .int t_keptTold]))] = ([(h0, .inr (5, [.ref t_parts, .ref t_dots, .int (m_Turtles_mean_w0_2 t_told k), .ref t_start, .ref t_goal, .ref t_keptParts, .ref t_keptDots, .int t_keptTold]))] : va_W) := by unfold m_Turtles_mean_w0_2; simp only [if_pos c_1]
    rw [eW] at hP9 hD9
    exact W.iret (v := (-2147483645)) hx hb hr (fun t9 ht hW => ⟨⟨(-2147483645), (), rfl, by unfold m_Turtles_mean_r; simp only [if_pos c_1], by rw [ht]; exact hP9, va_K.moved hW.alike hK, hD9⟩, hS.F ht⟩) hS.2.2 d_Turtles_mean_9
