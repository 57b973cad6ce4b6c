def R_Law : String := "TurtleWorldLaw"
abbrev b_Law_place : ByteArray := method_3_code
def y_Law_place : MethodName := ⟨R_Law, "place", "(LTurtleWorld;III[J)I"⟩
abbrev w_Law_place : List Cond := .codeWith y_Law_place b_Law_place 6 (some .int) [(0, 12, 15, 13)] :: tw_T
set_option maxRecDepth 100000 in
theorem cw_Law_place : Cond.codeWith y_Law_place b_Law_place 6 (some .int) [(0, 12, 15, 13)] ∈ tw_T := tw_i7 228 rfl rfl
abbrev b_Law_side : ByteArray := method_4_code
def y_Law_side : MethodName := ⟨R_Law, "side", "(LTurtleWorld;III[J)I"⟩
abbrev w_Law_side : List Cond := .codeWith y_Law_side b_Law_side 6 (some .int) [(0, 12, 15, 13)] :: tw_T
set_option maxRecDepth 100000 in
theorem cw_Law_side : Cond.codeWith y_Law_side b_Law_side 6 (some .int) [(0, 12, 15, 13)] ∈ tw_T := tw_i8 57 rfl rfl
theorem d_Law_place_0 : decode b_Law_place 0 = .ok (.aload 4, 2) := by decide +kernel
theorem d_Law_place_2 : decode b_Law_place 2 = .ok (.iconst 0, 1) := by decide +kernel
theorem d_Law_place_3 : decode b_Law_place 3 = .ok (.aload_n 0, 1) := by decide +kernel
theorem d_Law_place_4 : decode b_Law_place 4 = .ok (.iload_n 1, 1) := by decide +kernel
theorem d_Law_place_5 : decode b_Law_place 5 = .ok (.iload_n 2, 1) := by decide +kernel
theorem d_Law_place_6 : decode b_Law_place 6 = .ok (.iload_n 3, 1) := by decide +kernel
theorem d_Law_place_7 : decode b_Law_place 7 = .ok (.invokevirtual 7, 3) := by decide +kernel
theorem d_Law_place_10 : decode b_Law_place 10 = .ok (.i2l, 1) := by decide +kernel
theorem d_Law_place_11 : decode b_Law_place 11 = .ok (.lastore, 1) := by decide +kernel
theorem d_Law_place_12 : decode b_Law_place 12 = .ok (.goto 7, 3) := by decide +kernel
theorem d_Law_place_15 : decode b_Law_place 15 = .ok (.astore 5, 2) := by decide +kernel
theorem d_Law_place_17 : decode b_Law_place 17 = .ok (.iconst 1, 1) := by decide +kernel
theorem d_Law_place_18 : decode b_Law_place 18 = .ok (.ireturn, 1) := by decide +kernel
theorem d_Law_place_19 : decode b_Law_place 19 = .ok (.iconst 0, 1) := by decide +kernel
theorem d_Law_place_20 : decode b_Law_place 20 = .ok (.ireturn, 1) := by decide +kernel
theorem lk_Law_7 : Cond.methodLink "TurtleWorldLaw" 7 ⟨"TurtleWorld", "place", "(III)I"⟩ ∈ tw_T := tw_i7 230 (by decide +kernel) (by decide +kernel)
theorem in_World_place : Cond.instanceMethod ⟨"TurtleWorld", "place", "(III)I"⟩ ∈ tw_T := tw_i7 231 (by decide +kernel) (by decide +kernel)
theorem sel_World_place : Cond.selects "TurtleWorld" ⟨"TurtleWorld", "place", "(III)I"⟩ ⟨"TurtleWorld", "place", "(III)I"⟩ ∈ tw_T := tw_i7 232 (by decide +kernel) (by decide +kernel)
theorem d_Law_side_0 : decode b_Law_side 0 = .ok (.aload 4, 2) := by decide +kernel
theorem d_Law_side_2 : decode b_Law_side 2 = .ok (.iconst 0, 1) := by decide +kernel
theorem d_Law_side_3 : decode b_Law_side 3 = .ok (.aload_n 0, 1) := by decide +kernel
theorem d_Law_side_4 : decode b_Law_side 4 = .ok (.iload_n 1, 1) := by decide +kernel
theorem d_Law_side_5 : decode b_Law_side 5 = .ok (.iload_n 2, 1) := by decide +kernel
theorem d_Law_side_6 : decode b_Law_side 6 = .ok (.iload_n 3, 1) := by decide +kernel
theorem d_Law_side_7 : decode b_Law_side 7 = .ok (.invokevirtual 15, 3) := by decide +kernel
theorem d_Law_side_10 : decode b_Law_side 10 = .ok (.i2l, 1) := by decide +kernel
theorem d_Law_side_11 : decode b_Law_side 11 = .ok (.lastore, 1) := by decide +kernel
theorem d_Law_side_12 : decode b_Law_side 12 = .ok (.goto 7, 3) := by decide +kernel
theorem d_Law_side_15 : decode b_Law_side 15 = .ok (.astore 5, 2) := by decide +kernel
theorem d_Law_side_17 : decode b_Law_side 17 = .ok (.iconst 1, 1) := by decide +kernel
theorem d_Law_side_18 : decode b_Law_side 18 = .ok (.ireturn, 1) := by decide +kernel
theorem d_Law_side_19 : decode b_Law_side 19 = .ok (.iconst 0, 1) := by decide +kernel
theorem d_Law_side_20 : decode b_Law_side 20 = .ok (.ireturn, 1) := by decide +kernel
theorem lk_Law_15 : Cond.methodLink "TurtleWorldLaw" 15 ⟨"TurtleWorld", "side", "(III)I"⟩ ∈ tw_T := tw_i8 58 (by decide +kernel) (by decide +kernel)
theorem in_World_side : Cond.instanceMethod ⟨"TurtleWorld", "side", "(III)I"⟩ ∈ tw_T := tw_i8 59 (by decide +kernel) (by decide +kernel)
theorem sel_World_side : Cond.selects "TurtleWorld" ⟨"TurtleWorld", "side", "(III)I"⟩ ⟨"TurtleWorld", "side", "(III)I"⟩ ∈ tw_T := tw_i8 60 (by decide +kernel) (by decide +kernel)
theorem lk_Law_13 : Cond.classLink "TurtleWorldLaw" 13 "java/util/NoSuchElementException" ∈ tw_T := tw_i7 229 (by decide +kernel) (by decide +kernel)
def m_Law_place_r  : Int32 := 0
def m_Law_place_w3 (t_parts_v : Nat → Int32) (fo : Nat → Int64) (a : Int32) (b : Int32) (d : Int32) : Nat → Int64 := vp_updL fo (0 : Int32).toNatClampNeg ((m_World_place_r t_parts_v a b d).toInt64)
set_option maxHeartbeats 4000000 in
set_option maxRecDepth 100000 in
/-- place, as the law asks it -/
theorem c_Law_place_ok (l : Launch) (dC : Nat → ClassId) (dI : Nat → Nat → Nat) (sz : Nat) (hw : Nat) (w_heap : Nat) (w_names : Nat) (w_procedures : Nat) (w_turtles : Nat) (w_output : Nat) (w_reader : Nat) (w_line : Nat) (w_deeds : Nat) (w_machine : Nat) (w_lineList : Int32) (w_keptTop : Int32) (w_keptSeed : Int32) (w_canGoBack : Int32) (t_parts : Nat) (t_dots : Nat) (t_told : Int32) (t_start : Nat) (t_goal : Nat) (t_keptParts : Nat) (t_keptDots : Nat) (t_keptTold : Int32) (cI : ClassId) (cJ : ClassId) (t_parts_v : Nat → Int32) (o9 : Nat) (fo : Nat → Int64) (a : Int32) (b : Int32) (d : Int32) (hxt : ¬ ts_exists a = 0) (hb0 : ¬ b < 0) (hb1 : ¬ 1 < b) (hd0 : ¬ d < 0) (hd1 : d ≤ 1) : Met l y_Law_place w_Law_place ({ frames := 3, cells := 0, slots := 0, locals := 65 }) (va_Pc [.ref hw, .int a, .int b, .int d, .ref o9] (fun U => U.heap.size = sz ∧ va_P (dC, dI) classes [(hw, .inr (0, [.ref w_heap, .ref w_names, .ref w_procedures, .ref w_turtles, .ref w_output, .ref w_reader, .ref w_line, .ref w_deeds, .ref w_machine, .int w_lineList, .int w_keptTop, .int w_keptSeed, .int w_canGoBack])), (w_turtles, .inr (5, [.ref t_parts, .ref t_dots, .int t_told, .ref t_start, .ref t_goal, .ref t_keptParts, .ref t_keptDots, .int t_keptTold])), (t_parts, .inl (cI, 56, .inl t_parts_v)), (o9, .inl (cJ, 1, .inr (.inl fo)))] U.heap ∧ va_K (dC, dI) classes [(cI, .int), (cJ, .long)] U ∧ va_D (fun _ => True) [(hw, .inr (0, [.ref w_heap, .ref w_names, .ref w_procedures, .ref w_turtles, .ref w_output, .ref w_reader, .ref w_line, .ref w_deeds, .ref w_machine, .int w_lineList, .int w_keptTop, .int w_keptSeed, .int w_canGoBack])), (w_turtles, .inr (5, [.ref t_parts, .ref t_dots, .int t_told, .ref t_start, .ref t_goal, .ref t_keptParts, .ref t_keptDots, .int t_keptTold])), (t_parts, .inl (cI, 56, .inl t_parts_v)), (o9, .inl (cJ, 1, .inr (.inl fo)))])) (va_Qi (fun (r : Int32) (_ : Unit) => r = m_Law_place_r) (fun (_ : Unit) t => va_P (dC, dI) classes [(hw, .inr (0, [.ref w_heap, .ref w_names, .ref w_procedures, .ref w_turtles, .ref w_output, .ref w_reader, .ref w_line, .ref w_deeds, .ref w_machine, .int w_lineList, .int w_keptTop, .int w_keptSeed, .int w_canGoBack])), (w_turtles, .inr (5, [.ref t_parts, .ref t_dots, .int t_told, .ref t_start, .ref t_goal, .ref t_keptParts, .ref t_keptDots, .int t_keptTold])), (t_parts, .inl (cI, 56, .inl t_parts_v)), (o9, .inl (cJ, 1, .inr (.inl (m_Law_place_w3 t_parts_v fo a b d))))] t.heap ∧ va_K (dC, dI) classes [(cI, .int), (cJ, .long)] t ∧ va_D (va_A [(hw, .inr (0, [.ref w_heap, .ref w_names, .ref w_procedures, .ref w_turtles, .ref w_output, .ref w_reader, .ref w_line, .ref w_deeds, .ref w_machine, .int w_lineList, .int w_keptTop, .int w_keptSeed, .int w_canGoBack])), (w_turtles, .inr (5, [.ref t_parts, .ref t_dots, .int t_told, .ref t_start, .ref t_goal, .ref t_keptParts, .ref t_keptDots, .int t_keptTold])), (t_parts, .inl (cI, 56, .inl t_parts_v)), (o9, .inl (cJ, 1, .inr (.inl fo)))] sz) [(hw, .inr (0, [.ref w_heap, .ref w_names, .ref w_procedures, .ref w_turtles, .ref w_output, .ref w_reader, .ref w_line, .ref w_deeds, .ref w_machine, .int w_lineList, .int w_keptTop, .int w_keptSeed, .int w_canGoBack])), (w_turtles, .inr (5, [.ref t_parts, .ref t_dots, .int t_told, .ref t_start, .ref t_goal, .ref t_keptParts, .ref t_keptDots, .int t_keptTold])), (t_parts, .inl (cI, 56, .inl t_parts_v)), (o9, .inl (cJ, 1, .inr (.inl (m_Law_place_w3 t_parts_v fo a b d))))]) (va_A [(hw, .inr (0, [.ref w_heap, .ref w_names, .ref w_procedures, .ref w_turtles, .ref w_output, .ref w_reader, .ref w_line, .ref w_deeds, .ref w_machine, .int w_lineList, .int w_keptTop, .int w_keptSeed, .int w_canGoBack])), (w_turtles, .inr (5, [.ref t_parts, .ref t_dots, .int t_told, .ref t_start, .ref t_goal, .ref t_keptParts, .ref t_keptDots, .int t_keptTold])), (t_parts, .inl (cI, 56, .inl t_parts_v)), (o9, .inl (cJ, 1, .inr (.inl fo)))] sz)) 0 0 (va_A [(hw, .inr (0, [.ref w_heap, .ref w_names, .ref w_procedures, .ref w_turtles, .ref w_output, .ref w_reader, .ref w_line, .ref w_deeds, .ref w_machine, .int w_lineList, .int w_keptTop, .int w_keptSeed, .int w_canGoBack])), (w_turtles, .inr (5, [.ref t_parts, .ref t_dots, .int t_told, .ref t_start, .ref t_goal, .ref t_keptParts, .ref t_keptDots, .int t_keptTold])), (t_parts, .inl (cI, 56, .inl t_parts_v)), (o9, .inl (cJ, 1, .inr (.inl fo)))] sz) := by
  refine va_MetW (cc := b_Law_place) (maxL := 6) (ret := (some .int)) (hh := [(0, 12, 15, 13)]) (by decide) rfl ?_
  intro p e s m args below meth c s₁ B hml hv
  obtain ⟨rfl, hsz, hP, hK, hD0⟩ := hv
  have hx := B.exec
  have hb := B.bytes
  have hr := B.returns
  have hts := atoms_spec (ws := w_Law_place) B.pre
  have htt : ∀ w ∈ tw_T, w.before _ s = true := fun w h => hts w (List.mem_cons_of_mem _ h)
  have hown : s.vm.findClass R_Law = some m.cls := findClass_of_methodNamed B.named
  have hlocks := B.notSynchronized
  subst hsz
  have hD := hD0.self (sz := s.heap.size)
  generalize hAe : va_A [(hw, .inr (0, [.ref w_heap, .ref w_names, .ref w_procedures, .ref w_turtles, .ref w_output, .ref w_reader, .ref w_line, .ref w_deeds, .ref w_machine, .int w_lineList, .int w_keptTop, .int w_keptSeed, .int w_canGoBack])), (w_turtles, .inr (5, [.ref t_parts, .ref t_dots, .int t_told, .ref t_start, .ref t_goal, .ref t_keptParts, .ref t_keptDots, .int t_keptTold])), (t_parts, .inl (cI, 56, .inl t_parts_v)), (o9, .inl (cJ, 1, .inr (.inl fo)))] s.heap.size = A at hD ⊢
  have hA : ∀ q : Nat, s.heap.size ≤ q → A q := fun q h => by rw [← hAe]; exact Or.inr h
  have hS : va_S A s.heap s.heap [] := va_S.rf
  have hP : va_P (dC, dI) classes [(hw, .inr (0, [.ref w_heap, .ref w_names, .ref w_procedures, .ref w_turtles, .ref w_output, .ref w_reader, .ref w_line, .ref w_deeds, .ref w_machine, .int w_lineList, .int w_keptTop, .int w_keptSeed, .int w_canGoBack])), (w_turtles, .inr (5, [.ref t_parts, .ref t_dots, .int t_told, .ref t_start, .ref t_goal, .ref t_keptParts, .ref t_keptDots, .int t_keptTold])), (t_parts, .inl (cI, 56, .inl t_parts_v)), (o9, .inl (cJ, 1, .inr (.inl fo)))] s.heap := hP
  have hl := lv_entry ([.ref hw, .int a, .int b, .int d, .ref o9]) (n := 6) (Nat.le_of_ble_eq_true rfl)
  rw [lg_entry_eq]
  generalize (lg_sl ([.ref hw, .int a, .int b, .int d, .ref o9]) ++ List.replicate (6 - (lg_sl ([.ref hw, .int a, .int b, .int d, .ref o9])).length) Slot.unset).toArray = ls at hl ⊢
  have hl : lv_has ls 6 [(0, .ref hw), (1, .int a), (2, .int b), (3, .int d), (4, .ref o9)] := hl
  refine lv_aload hx hb d_Law_place_0 (lv_at hl 4 rfl) ?_
  refine lv_iconst (v := 0) hx hb d_Law_place_2 (by decide) ?_
  refine lv_aload_n hx hb d_Law_place_3 rfl (lv_at hl 0 rfl) ?_
  refine lv_iload_n hx hb d_Law_place_4 rfl (lv_at hl 1 rfl) ?_
  refine lv_iload_n hx hb d_Law_place_5 rfl (lv_at hl 2 rfl) ?_
  refine lv_iload_n hx hb d_Law_place_6 rfl (lv_at hl 3 rfl) ?_
  have hPc := hP.sub (ws' := [(hw, .inr (0, [.ref w_heap, .ref w_names, .ref w_procedures, .ref w_turtles, .ref w_output, .ref w_reader, .ref w_line, .ref w_deeds, .ref w_machine, .int w_lineList, .int w_keptTop, .int w_keptSeed, .int w_canGoBack])), (w_turtles, .inr (5, [.ref t_parts, .ref t_dots, .int t_told, .ref t_start, .ref t_goal, .ref t_keptParts, .ref t_keptDots, .int t_keptTold])), (t_parts, .inl (cI, 56, .inl t_parts_v))]) [0, 1, 2] rfl
  have hDc := hD.sub (ws' := [(hw, .inr (0, [.ref w_heap, .ref w_names, .ref w_procedures, .ref w_turtles, .ref w_output, .ref w_reader, .ref w_line, .ref w_deeds, .ref w_machine, .int w_lineList, .int w_keptTop, .int w_keptSeed, .int w_canGoBack])), (w_turtles, .inr (5, [.ref t_parts, .ref t_dots, .int t_told, .ref t_start, .ref t_goal, .ref t_keptParts, .ref t_keptDots, .int t_keptTold])), (t_parts, .inl (cI, 56, .inl t_parts_v))]) [0, 1, 2] (by decide) rfl
  have hKc := hK.sub (tys' := [(cI, .int)]) [0] rfl
  have hFc := va_free (wc := [(hw, .inr (0, [.ref w_heap, .ref w_names, .ref w_procedures, .ref w_turtles, .ref w_output, .ref w_reader, .ref w_line, .ref w_deeds, .ref w_machine, .int w_lineList, .int w_keptTop, .int w_keptSeed, .int w_canGoBack])), (w_turtles, .inr (5, [.ref t_parts, .ref t_dots, .int t_told, .ref t_start, .ref t_goal, .ref t_keptParts, .ref t_keptDots, .int t_keptTold])), (t_parts, .inl (cI, 56, .inl t_parts_v))]) hD hS hA [0, 1, 2] rfl
  refine va_calli (va_runV (As := [.int a, .int b, .int d]) (rest := [.int 0, .ref o9]) ⟨hx, hb, hml, hown, hts⟩ (c_World_place_ok l dC dI s.heap.size hw w_heap w_names w_procedures w_turtles w_output w_reader w_line w_deeds w_machine w_lineList w_keptTop w_keptSeed w_canGoBack t_parts t_dots t_told t_start t_goal t_keptParts t_keptDots t_keptTold cI t_parts_v a b d (by assumption) (by assumption) (by assumption) (by assumption) (by assumption)) (cwV 3 hts (tw_GV tw_cons cw_World_place lk_Law_7 in_World_place sel_World_place ini_World) rfl rfl rfl (by decide +kernel) ⟨Nat.le_of_ble_eq_true rfl, Nat.le_of_ble_eq_true rfl⟩) ⟨fun a U g mk q => by obtain ⟨q0, q1, qP, qK, qD⟩ := q; exact ⟨q0, q1, qP, va_K.moved (u := U) (U := U.calling g mk a) (Vm.Alike.refl U.vm) qK, qD⟩, va_recv hKc hPc (ci := 0) (q0 := 0) rfl rfl, fun U hU hW => ⟨rfl, by rw [hU], by rw [hU]; exact hPc, va_K.moved hW.alike hKc, hDc.weaken (fun _ _ _ _ => trivial)⟩⟩ rfl rfl hl.1 rfl (lv_room (Nat.le_of_ble_eq_true rfl)) d_Law_place_7 ⟨Nat.le_of_ble_eq_true rfl, Nat.le_of_ble_eq_true rfl⟩) hS (fun q _ h => hFc q h) hFc (fun r9 u9 t9 H1 locs ht hvm e9 hB hz1 hk1 hS => ?_)
  obtain ⟨hP1, hK1, hD1⟩ := hB
  rw [ht] at hP1
  obtain ⟨hP, hD⟩ := va_join (wr := [(o9, .inl (cJ, 1, .inr (.inl fo)))]) (w1 := [(hw, .inr (0, [.ref w_heap, .ref w_names, .ref w_procedures, .ref w_turtles, .ref w_output, .ref w_reader, .ref w_line, .ref w_deeds, .ref w_machine, .int w_lineList, .int w_keptTop, .int w_keptSeed, .int w_canGoBack])), (w_turtles, .inr (5, [.ref t_parts, .ref t_dots, .int t_told, .ref t_start, .ref t_goal, .ref t_keptParts, .ref t_keptDots, .int t_keptTold])), (t_parts, .inl (cI, 56, .inl t_parts_v))]) hP hD [0, 1, 2] [3] rfl rfl (by decide) (by decide) hk1 hFc hP1 hD1
  subst e9
  clear hP1 hD1 hK1 hvm hz1 hk1 hFc hKc hDc hPc
  subst ht
  generalize t9.heap = H at hP hS ⊢
  have hP : va_P (dC, dI) classes [(o9, .inl (cJ, 1, .inr (.inl fo))), (hw, .inr (0, [.ref w_heap, .ref w_names, .ref w_procedures, .ref w_turtles, .ref w_output, .ref w_reader, .ref w_line, .ref w_deeds, .ref w_machine, .int w_lineList, .int w_keptTop, .int w_keptSeed, .int w_canGoBack])), (w_turtles, .inr (5, [.ref t_parts, .ref t_dots, .int t_told, .ref t_start, .ref t_goal, .ref t_keptParts, .ref t_keptDots, .int t_keptTold])), (t_parts, .inl (cI, 56, .inl t_parts_v))] H := hP
  have hD : va_D A [(o9, .inl (cJ, 1, .inr (.inl fo))), (hw, .inr (0, [.ref w_heap, .ref w_names, .ref w_procedures, .ref w_turtles, .ref w_output, .ref w_reader, .ref w_line, .ref w_deeds, .ref w_machine, .int w_lineList, .int w_keptTop, .int w_keptSeed, .int w_canGoBack])), (w_turtles, .inr (5, [.ref t_parts, .ref t_dots, .int t_told, .ref t_start, .ref t_goal, .ref t_keptParts, .ref t_keptDots, .int t_keptTold])), (t_parts, .inl (cI, 56, .inl t_parts_v))] := hD
  refine lv_i2l hx hb d_Law_place_10 rfl ?_
  have h_1 : vp_in 0 1 := vp_in_iff.mpr (by decide +kernel)
  refine va_last hx hb hK hP hD hS 0 1 rfl rfl h_1 d_Law_place_11 (fun H locs hP hD hS => ?_)
  have hP : va_P (dC, dI) classes [(o9, .inl (cJ, 1, .inr (.inl (vp_updL fo (0 : Int32).toNatClampNeg ((m_World_place_r t_parts_v a b d).toInt64))))), (hw, .inr (0, [.ref w_heap, .ref w_names, .ref w_procedures, .ref w_turtles, .ref w_output, .ref w_reader, .ref w_line, .ref w_deeds, .ref w_machine, .int w_lineList, .int w_keptTop, .int w_keptSeed, .int w_canGoBack])), (w_turtles, .inr (5, [.ref t_parts, .ref t_dots, .int t_told, .ref t_start, .ref t_goal, .ref t_keptParts, .ref t_keptDots, .int t_keptTold])), (t_parts, .inl (cI, 56, .inl t_parts_v))] H := hP
  have hD : va_D A [(o9, .inl (cJ, 1, .inr (.inl (vp_updL fo (0 : Int32).toNatClampNeg ((m_World_place_r t_parts_v a b d).toInt64))))), (hw, .inr (0, [.ref w_heap, .ref w_names, .ref w_procedures, .ref w_turtles, .ref w_output, .ref w_reader, .ref w_line, .ref w_deeds, .ref w_machine, .int w_lineList, .int w_keptTop, .int w_keptSeed, .int w_canGoBack])), (w_turtles, .inr (5, [.ref t_parts, .ref t_dots, .int t_told, .ref t_start, .ref t_goal, .ref t_keptParts, .ref t_keptDots, .int t_keptTold])), (t_parts, .inl (cI, 56, .inl t_parts_v))] := hD
  refine lv_goto (tgt := 19) hx hb d_Law_place_12 (by decide) ?_
  refine lv_iconst (v := 0) hx hb d_Law_place_19 (by decide) ?_
  have hP9 := hP.sub (ws' := [(hw, .inr (0, [.ref w_heap, .ref w_names, .ref w_procedures, .ref w_turtles, .ref w_output, .ref w_reader, .ref w_line, .ref w_deeds, .ref w_machine, .int w_lineList, .int w_keptTop, .int w_keptSeed, .int w_canGoBack])), (w_turtles, .inr (5, [.ref t_parts, .ref t_dots, .int t_told, .ref t_start, .ref t_goal, .ref t_keptParts, .ref t_keptDots, .int t_keptTold])), (t_parts, .inl (cI, 56, .inl t_parts_v)), (o9, .inl (cJ, 1, .inr (.inl (vp_updL fo (0 : Int32).toNatClampNeg ((m_World_place_r t_parts_v a b d).toInt64)))))]) [1, 2, 3, 0] rfl
  have hD9 := hD.sub (ws' := [(hw, .inr (0, [.ref w_heap, .ref w_names, .ref w_procedures, .ref w_turtles, .ref w_output, .ref w_reader, .ref w_line, .ref w_deeds, .ref w_machine, .int w_lineList, .int w_keptTop, .int w_keptSeed, .int w_canGoBack])), (w_turtles, .inr (5, [.ref t_parts, .ref t_dots, .int t_told, .ref t_start, .ref t_goal, .ref t_keptParts, .ref t_keptDots, .int t_keptTold])), (t_parts, .inl (cI, 56, .inl t_parts_v)), (o9, .inl (cJ, 1, .inr (.inl (vp_updL fo (0 : Int32).toNatClampNeg ((m_World_place_r t_parts_v a b d).toInt64)))))]) [1, 2, 3, 0] (by decide) rfl
  have eW : [(hw, .inr (0, [.ref w_heap, .ref w_names, .ref w_procedures, .ref w_turtles, .ref w_output, .ref w_reader, .ref w_line, .ref w_deeds, .ref w_machine, .int w_lineList, .int w_keptTop, .int w_keptSeed, .int w_canGoBack])), (w_turtles, .inr (5, [.ref t_parts, .ref t_dots, .int t_told, .ref t_start, .ref t_goal, .ref t_keptParts, .ref t_keptDots, .int t_keptTold])), (t_parts, .inl (cI, 56, .inl t_parts_v)), (o9, .inl (cJ, 1, .inr (.inl (vp_updL fo (0 : Int32).toNatClampNeg ((m_World_place_r t_parts_v a b d).toInt64)))))] = ([(hw, .inr (0, [.ref w_heap, .ref w_names, .ref w_procedures, .ref w_turtles, .ref w_output, .ref w_reader, .ref w_line, .ref w_deeds, .ref w_machine, .int w_lineList, .int w_keptTop, .int w_keptSeed, .int w_canGoBack])), (w_turtles, .inr (5, [.ref t_parts, .ref t_dots, .int t_told, .ref t_start, .ref t_goal, .ref t_keptParts, .ref t_keptDots, .int t_keptTold])), (t_parts, .inl (cI, 56, .inl t_parts_v)), (o9, .inl (cJ, 1, .inr (.inl (m_Law_place_w3 t_parts_v fo a b d))))] : va_W) := by unfold m_Law_place_w3; rfl
  rw [eW] at hP9 hD9
  exact W.iret (v := 0) hx hb hr (fun t9 ht hW => ⟨⟨0, (), rfl, by unfold m_Law_place_r; rfl, by rw [ht]; exact hP9, va_K.moved hW.alike hK, hD9⟩, hS.F ht⟩) hS.2.2 d_Law_place_20

def m_Law_side_r  : Int32 := 0
def m_Law_side_w3 (t_parts_v : Nat → Int32) (fo : Nat → Int64) (a : Int32) (b : Int32) (d : Int32) : Nat → Int64 := vp_updL fo (0 : Int32).toNatClampNeg ((m_World_side_r t_parts_v a b d).toInt64)
set_option maxHeartbeats 4000000 in
set_option maxRecDepth 100000 in
/-- side, as the law asks it -/
theorem c_Law_side_ok (l : Launch) (dC : Nat → ClassId) (dI : Nat → Nat → Nat) (sz : Nat) (hw : Nat) (w_heap : Nat) (w_names : Nat) (w_procedures : Nat) (w_turtles : Nat) (w_output : Nat) (w_reader : Nat) (w_line : Nat) (w_deeds : Nat) (w_machine : Nat) (w_lineList : Int32) (w_keptTop : Int32) (w_keptSeed : Int32) (w_canGoBack : Int32) (t_parts : Nat) (t_dots : Nat) (t_told : Int32) (t_start : Nat) (t_goal : Nat) (t_keptParts : Nat) (t_keptDots : Nat) (t_keptTold : Int32) (cI : ClassId) (cJ : ClassId) (t_parts_v : Nat → Int32) (o9 : Nat) (fo : Nat → Int64) (a : Int32) (b : Int32) (d : Int32) (hxt : ¬ ts_exists a = 0) (hb0 : ¬ b < 0) (hb1 : b ≤ 1) : Met l y_Law_side w_Law_side ({ frames := 3, cells := 0, slots := 0, locals := 74 }) (va_Pc [.ref hw, .int a, .int b, .int d, .ref o9] (fun U => U.heap.size = sz ∧ va_P (dC, dI) classes [(hw, .inr (0, [.ref w_heap, .ref w_names, .ref w_procedures, .ref w_turtles, .ref w_output, .ref w_reader, .ref w_line, .ref w_deeds, .ref w_machine, .int w_lineList, .int w_keptTop, .int w_keptSeed, .int w_canGoBack])), (w_turtles, .inr (5, [.ref t_parts, .ref t_dots, .int t_told, .ref t_start, .ref t_goal, .ref t_keptParts, .ref t_keptDots, .int t_keptTold])), (t_parts, .inl (cI, 56, .inl t_parts_v)), (o9, .inl (cJ, 1, .inr (.inl fo)))] U.heap ∧ va_K (dC, dI) classes [(cI, .int), (cJ, .long)] U ∧ va_D (fun _ => True) [(hw, .inr (0, [.ref w_heap, .ref w_names, .ref w_procedures, .ref w_turtles, .ref w_output, .ref w_reader, .ref w_line, .ref w_deeds, .ref w_machine, .int w_lineList, .int w_keptTop, .int w_keptSeed, .int w_canGoBack])), (w_turtles, .inr (5, [.ref t_parts, .ref t_dots, .int t_told, .ref t_start, .ref t_goal, .ref t_keptParts, .ref t_keptDots, .int t_keptTold])), (t_parts, .inl (cI, 56, .inl t_parts_v)), (o9, .inl (cJ, 1, .inr (.inl fo)))])) (va_Qi (fun (r : Int32) (_ : Unit) => r = m_Law_side_r) (fun (_ : Unit) t => va_P (dC, dI) classes [(hw, .inr (0, [.ref w_heap, .ref w_names, .ref w_procedures, .ref w_turtles, .ref w_output, .ref w_reader, .ref w_line, .ref w_deeds, .ref w_machine, .int w_lineList, .int w_keptTop, .int w_keptSeed, .int w_canGoBack])), (w_turtles, .inr (5, [.ref t_parts, .ref t_dots, .int t_told, .ref t_start, .ref t_goal, .ref t_keptParts, .ref t_keptDots, .int t_keptTold])), (t_parts, .inl (cI, 56, .inl t_parts_v)), (o9, .inl (cJ, 1, .inr (.inl (m_Law_side_w3 t_parts_v fo a b d))))] t.heap ∧ va_K (dC, dI) classes [(cI, .int), (cJ, .long)] t ∧ va_D (va_A [(hw, .inr (0, [.ref w_heap, .ref w_names, .ref w_procedures, .ref w_turtles, .ref w_output, .ref w_reader, .ref w_line, .ref w_deeds, .ref w_machine, .int w_lineList, .int w_keptTop, .int w_keptSeed, .int w_canGoBack])), (w_turtles, .inr (5, [.ref t_parts, .ref t_dots, .int t_told, .ref t_start, .ref t_goal, .ref t_keptParts, .ref t_keptDots, .int t_keptTold])), (t_parts, .inl (cI, 56, .inl t_parts_v)), (o9, .inl (cJ, 1, .inr (.inl fo)))] sz) [(hw, .inr (0, [.ref w_heap, .ref w_names, .ref w_procedures, .ref w_turtles, .ref w_output, .ref w_reader, .ref w_line, .ref w_deeds, .ref w_machine, .int w_lineList, .int w_keptTop, .int w_keptSeed, .int w_canGoBack])), (w_turtles, .inr (5, [.ref t_parts, .ref t_dots, .int t_told, .ref t_start, .ref t_goal, .ref t_keptParts, .ref t_keptDots, .int t_keptTold])), (t_parts, .inl (cI, 56, .inl t_parts_v)), (o9, .inl (cJ, 1, .inr (.inl (m_Law_side_w3 t_parts_v fo a b d))))]) (va_A [(hw, .inr (0, [.ref w_heap, .ref w_names, .ref w_procedures, .ref w_turtles, .ref w_output, .ref w_reader, .ref w_line, .ref w_deeds, .ref w_machine, .int w_lineList, .int w_keptTop, .int w_keptSeed, .int w_canGoBack])), (w_turtles, .inr (5, [.ref t_parts, .ref t_dots, .int t_told, .ref t_start, .ref t_goal, .ref t_keptParts, .ref t_keptDots, .int t_keptTold])), (t_parts, .inl (cI, 56, .inl t_parts_v)), (o9, .inl (cJ, 1, .inr (.inl fo)))] sz)) 0 0 (va_A [(hw, .inr (0, [.ref w_heap, .ref w_names, .ref w_procedures, .ref w_turtles, .ref w_output, .ref w_reader, .ref w_line, .ref w_deeds, .ref w_machine, .int w_lineList, .int w_keptTop, .int w_keptSeed, .int w_canGoBack])), (w_turtles, .inr (5, [.ref t_parts, .ref t_dots, .int t_told, .ref t_start, .ref t_goal, .ref t_keptParts, .ref t_keptDots, .int t_keptTold])), (t_parts, .inl (cI, 56, .inl t_parts_v)), (o9, .inl (cJ, 1, .inr (.inl fo)))] sz) := by
  refine va_MetW (cc := b_Law_side) (maxL := 6) (ret := (some .int)) (hh := [(0, 12, 15, 13)]) (by decide) rfl ?_
  intro p e s m args below meth c s₁ B hml hv
  obtain ⟨rfl, hsz, hP, hK, hD0⟩ := hv
  have hx := B.exec
  have hb := B.bytes
  have hr := B.returns
  have hts := atoms_spec (ws := w_Law_side) B.pre
  have htt : ∀ w ∈ tw_T, w.before _ s = true := fun w h => hts w (List.mem_cons_of_mem _ h)
  have hown : s.vm.findClass R_Law = some m.cls := findClass_of_methodNamed B.named
  have hlocks := B.notSynchronized
  subst hsz
  have hD := hD0.self (sz := s.heap.size)
  generalize hAe : va_A [(hw, .inr (0, [.ref w_heap, .ref w_names, .ref w_procedures, .ref w_turtles, .ref w_output, .ref w_reader, .ref w_line, .ref w_deeds, .ref w_machine, .int w_lineList, .int w_keptTop, .int w_keptSeed, .int w_canGoBack])), (w_turtles, .inr (5, [.ref t_parts, .ref t_dots, .int t_told, .ref t_start, .ref t_goal, .ref t_keptParts, .ref t_keptDots, .int t_keptTold])), (t_parts, .inl (cI, 56, .inl t_parts_v)), (o9, .inl (cJ, 1, .inr (.inl fo)))] s.heap.size = A at hD ⊢
  have hA : ∀ q : Nat, s.heap.size ≤ q → A q := fun q h => by rw [← hAe]; exact Or.inr h
  have hS : va_S A s.heap s.heap [] := va_S.rf
  have hP : va_P (dC, dI) classes [(hw, .inr (0, [.ref w_heap, .ref w_names, .ref w_procedures, .ref w_turtles, .ref w_output, .ref w_reader, .ref w_line, .ref w_deeds, .ref w_machine, .int w_lineList, .int w_keptTop, .int w_keptSeed, .int w_canGoBack])), (w_turtles, .inr (5, [.ref t_parts, .ref t_dots, .int t_told, .ref t_start, .ref t_goal, .ref t_keptParts, .ref t_keptDots, .int t_keptTold])), (t_parts, .inl (cI, 56, .inl t_parts_v)), (o9, .inl (cJ, 1, .inr (.inl fo)))] s.heap := hP
  have hl := lv_entry ([.ref hw, .int a, .int b, .int d, .ref o9]) (n := 6) (Nat.le_of_ble_eq_true rfl)
  rw [lg_entry_eq]
  generalize (lg_sl ([.ref hw, .int a, .int b, .int d, .ref o9]) ++ List.replicate (6 - (lg_sl ([.ref hw, .int a, .int b, .int d, .ref o9])).length) Slot.unset).toArray = ls at hl ⊢
  have hl : lv_has ls 6 [(0, .ref hw), (1, .int a), (2, .int b), (3, .int d), (4, .ref o9)] := hl
  refine lv_aload hx hb d_Law_side_0 (lv_at hl 4 rfl) ?_
  refine lv_iconst (v := 0) hx hb d_Law_side_2 (by decide) ?_
  refine lv_aload_n hx hb d_Law_side_3 rfl (lv_at hl 0 rfl) ?_
  refine lv_iload_n hx hb d_Law_side_4 rfl (lv_at hl 1 rfl) ?_
  refine lv_iload_n hx hb d_Law_side_5 rfl (lv_at hl 2 rfl) ?_
  refine lv_iload_n hx hb d_Law_side_6 rfl (lv_at hl 3 rfl) ?_
  have hPc := hP.sub (ws' := [(hw, .inr (0, [.ref w_heap, .ref w_names, .ref w_procedures, .ref w_turtles, .ref w_output, .ref w_reader, .ref w_line, .ref w_deeds, .ref w_machine, .int w_lineList, .int w_keptTop, .int w_keptSeed, .int w_canGoBack])), (w_turtles, .inr (5, [.ref t_parts, .ref t_dots, .int t_told, .ref t_start, .ref t_goal, .ref t_keptParts, .ref t_keptDots, .int t_keptTold])), (t_parts, .inl (cI, 56, .inl t_parts_v))]) [0, 1, 2] rfl
  have hDc := hD.sub (ws' := [(hw, .inr (0, [.ref w_heap, .ref w_names, .ref w_procedures, .ref w_turtles, .ref w_output, .ref w_reader, .ref w_line, .ref w_deeds, .ref w_machine, .int w_lineList, .int w_keptTop, .int w_keptSeed, .int w_canGoBack])), (w_turtles, .inr (5, [.ref t_parts, .ref t_dots, .int t_told, .ref t_start, .ref t_goal, .ref t_keptParts, .ref t_keptDots, .int t_keptTold])), (t_parts, .inl (cI, 56, .inl t_parts_v))]) [0, 1, 2] (by decide) rfl
  have hKc := hK.sub (tys' := [(cI, .int)]) [0] rfl
  have hFc := va_free (wc := [(hw, .inr (0, [.ref w_heap, .ref w_names, .ref w_procedures, .ref w_turtles, .ref w_output, .ref w_reader, .ref w_line, .ref w_deeds, .ref w_machine, .int w_lineList, .int w_keptTop, .int w_keptSeed, .int w_canGoBack])), (w_turtles, .inr (5, [.ref t_parts, .ref t_dots, .int t_told, .ref t_start, .ref t_goal, .ref t_keptParts, .ref t_keptDots, .int t_keptTold])), (t_parts, .inl (cI, 56, .inl t_parts_v))]) hD hS hA [0, 1, 2] rfl
  refine va_calli (va_runV (As := [.int a, .int b, .int d]) (rest := [.int 0, .ref o9]) ⟨hx, hb, hml, hown, hts⟩ (c_World_side_ok l dC dI s.heap.size hw w_heap w_names w_procedures w_turtles w_output w_reader w_line w_deeds w_machine w_lineList w_keptTop w_keptSeed w_canGoBack t_parts t_dots t_told t_start t_goal t_keptParts t_keptDots t_keptTold cI t_parts_v a b d (by assumption) (by assumption) (by assumption)) (cwV 3 hts (tw_GV tw_cons cw_World_side lk_Law_15 in_World_side sel_World_side ini_World) rfl rfl rfl (by decide +kernel) ⟨Nat.le_of_ble_eq_true rfl, Nat.le_of_ble_eq_true rfl⟩) ⟨fun a U g mk q => by obtain ⟨q0, q1, qP, qK, qD⟩ := q; exact ⟨q0, q1, qP, va_K.moved (u := U) (U := U.calling g mk a) (Vm.Alike.refl U.vm) qK, qD⟩, va_recv hKc hPc (ci := 0) (q0 := 0) rfl rfl, fun U hU hW => ⟨rfl, by rw [hU], by rw [hU]; exact hPc, va_K.moved hW.alike hKc, hDc.weaken (fun _ _ _ _ => trivial)⟩⟩ rfl rfl hl.1 rfl (lv_room (Nat.le_of_ble_eq_true rfl)) d_Law_side_7 ⟨Nat.le_of_ble_eq_true rfl, Nat.le_of_ble_eq_true rfl⟩) hS (fun q _ h => hFc q h) hFc (fun r9 u9 t9 H1 locs ht hvm e9 hB hz1 hk1 hS => ?_)
  obtain ⟨hP1, hK1, hD1⟩ := hB
  rw [ht] at hP1
  obtain ⟨hP, hD⟩ := va_join (wr := [(o9, .inl (cJ, 1, .inr (.inl fo)))]) (w1 := [(hw, .inr (0, [.ref w_heap, .ref w_names, .ref w_procedures, .ref w_turtles, .ref w_output, .ref w_reader, .ref w_line, .ref w_deeds, .ref w_machine, .int w_lineList, .int w_keptTop, .int w_keptSeed, .int w_canGoBack])), (w_turtles, .inr (5, [.ref t_parts, .ref t_dots, .int t_told, .ref t_start, .ref t_goal, .ref t_keptParts, .ref t_keptDots, .int t_keptTold])), (t_parts, .inl (cI, 56, .inl t_parts_v))]) hP hD [0, 1, 2] [3] rfl rfl (by decide) (by decide) hk1 hFc hP1 hD1
  subst e9
  clear hP1 hD1 hK1 hvm hz1 hk1 hFc hKc hDc hPc
  subst ht
  generalize t9.heap = H at hP hS ⊢
  have hP : va_P (dC, dI) classes [(o9, .inl (cJ, 1, .inr (.inl fo))), (hw, .inr (0, [.ref w_heap, .ref w_names, .ref w_procedures, .ref w_turtles, .ref w_output, .ref w_reader, .ref w_line, .ref w_deeds, .ref w_machine, .int w_lineList, .int w_keptTop, .int w_keptSeed, .int w_canGoBack])), (w_turtles, .inr (5, [.ref t_parts, .ref t_dots, .int t_told, .ref t_start, .ref t_goal, .ref t_keptParts, .ref t_keptDots, .int t_keptTold])), (t_parts, .inl (cI, 56, .inl t_parts_v))] H := hP
  have hD : va_D A [(o9, .inl (cJ, 1, .inr (.inl fo))), (hw, .inr (0, [.ref w_heap, .ref w_names, .ref w_procedures, .ref w_turtles, .ref w_output, .ref w_reader, .ref w_line, .ref w_deeds, .ref w_machine, .int w_lineList, .int w_keptTop, .int w_keptSeed, .int w_canGoBack])), (w_turtles, .inr (5, [.ref t_parts, .ref t_dots, .int t_told, .ref t_start, .ref t_goal, .ref t_keptParts, .ref t_keptDots, .int t_keptTold])), (t_parts, .inl (cI, 56, .inl t_parts_v))] := hD
  refine lv_i2l hx hb d_Law_side_10 rfl ?_
  have h_1 : vp_in 0 1 := vp_in_iff.mpr (by decide +kernel)
  refine va_last hx hb hK hP hD hS 0 1 rfl rfl h_1 d_Law_side_11 (fun H locs hP hD hS => ?_)
  have hP : va_P (dC, dI) classes [(o9, .inl (cJ, 1, .inr (.inl (vp_updL fo (0 : Int32).toNatClampNeg ((m_World_side_r t_parts_v a b d).toInt64))))), (hw, .inr (0, [.ref w_heap, .ref w_names, .ref w_procedures, .ref w_turtles, .ref w_output, .ref w_reader, .ref w_line, .ref w_deeds, .ref w_machine, .int w_lineList, .int w_keptTop, .int w_keptSeed, .int w_canGoBack])), (w_turtles, .inr (5, [.ref t_parts, .ref t_dots, .int t_told, .ref t_start, .ref t_goal, .ref t_keptParts, .ref t_keptDots, .int t_keptTold])), (t_parts, .inl (cI, 56, .inl t_parts_v))] H := hP
  have hD : va_D A [(o9, .inl (cJ, 1, .inr (.inl (vp_updL fo (0 : Int32).toNatClampNeg ((m_World_side_r t_parts_v a b d).toInt64))))), (hw, .inr (0, [.ref w_heap, .ref w_names, .ref w_procedures, .ref w_turtles, .ref w_output, .ref w_reader, .ref w_line, .ref w_deeds, .ref w_machine, .int w_lineList, .int w_keptTop, .int w_keptSeed, .int w_canGoBack])), (w_turtles, .inr (5, [.ref t_parts, .ref t_dots, .int t_told, .ref t_start, .ref t_goal, .ref t_keptParts, .ref t_keptDots, .int t_keptTold])), (t_parts, .inl (cI, 56, .inl t_parts_v))] := hD
  refine lv_goto (tgt := 19) hx hb d_Law_side_12 (by decide) ?_
  refine lv_iconst (v := 0) hx hb d_Law_side_19 (by decide) ?_
  have hP9 := hP.sub (ws' := [(hw, .inr (0, [.ref w_heap, .ref w_names, .ref w_procedures, .ref w_turtles, .ref w_output, .ref w_reader, .ref w_line, .ref w_deeds, .ref w_machine, .int w_lineList, .int w_keptTop, .int w_keptSeed, .int w_canGoBack])), (w_turtles, .inr (5, [.ref t_parts, .ref t_dots, .int t_told, .ref t_start, .ref t_goal, .ref t_keptParts, .ref t_keptDots, .int t_keptTold])), (t_parts, .inl (cI, 56, .inl t_parts_v)), (o9, .inl (cJ, 1, .inr (.inl (vp_updL fo (0 : Int32).toNatClampNeg ((m_World_side_r t_parts_v a b d).toInt64)))))]) [1, 2, 3, 0] rfl
  have hD9 := hD.sub (ws' := [(hw, .inr (0, [.ref w_heap, .ref w_names, .ref w_procedures, .ref w_turtles, .ref w_output, .ref w_reader, .ref w_line, .ref w_deeds, .ref w_machine, .int w_lineList, .int w_keptTop, .int w_keptSeed, .int w_canGoBack])), (w_turtles, .inr (5, [.ref t_parts, .ref t_dots, .int t_told, .ref t_start, .ref t_goal, .ref t_keptParts, .ref t_keptDots, .int t_keptTold])), (t_parts, .inl (cI, 56, .inl t_parts_v)), (o9, .inl (cJ, 1, .inr (.inl (vp_updL fo (0 : Int32).toNatClampNeg ((m_World_side_r t_parts_v a b d).toInt64)))))]) [1, 2, 3, 0] (by decide) rfl
  have eW : [(hw, .inr (0, [.ref w_heap, .ref w_names, .ref w_procedures, .ref w_turtles, .ref w_output, .ref w_reader, .ref w_line, .ref w_deeds, .ref w_machine, .int w_lineList, .int w_keptTop, .int w_keptSeed, .int w_canGoBack])), (w_turtles, .inr (5, [.ref t_parts, .ref t_dots, .int t_told, .ref t_start, .ref t_goal, .ref t_keptParts, .ref t_keptDots, .int t_keptTold])), (t_parts, .inl (cI, 56, .inl t_parts_v)), (o9, .inl (cJ, 1, .inr (.inl (vp_updL fo (0 : Int32).toNatClampNeg ((m_World_side_r t_parts_v a b d).toInt64)))))] = ([(hw, .inr (0, [.ref w_heap, .ref w_names, .ref w_procedures, .ref w_turtles, .ref w_output, .ref w_reader, .ref w_line, .ref w_deeds, .ref w_machine, .int w_lineList, .int w_keptTop, .int w_keptSeed, .int w_canGoBack])), (w_turtles, .inr (5, [.ref t_parts, .ref t_dots, .int t_told, .ref t_start, .ref t_goal, .ref t_keptParts, .ref t_keptDots, .int t_keptTold])), (t_parts, .inl (cI, 56, .inl t_parts_v)), (o9, .inl (cJ, 1, .inr (.inl (m_Law_side_w3 t_parts_v fo a b d))))] : va_W) := by unfold m_Law_side_w3; rfl
  rw [eW] at hP9 hD9
  exact W.iret (v := 0) hx hb hr (fun t9 ht hW => ⟨⟨0, (), rfl, by unfold m_Law_side_r; rfl, by rw [ht]; exact hP9, va_K.moved hW.alike hK, hD9⟩, hS.F ht⟩) hS.2.2 d_Law_side_20

set_option maxHeartbeats 4000000 in
set_option maxRecDepth 100000 in
/-- place, as the law asks it, where there is none such -/
theorem c_Law_place_bad (l : Launch) (hf : l.flags = pinnedFlags ++ [noTraceFlag]) (dC : Nat → ClassId) (dI : Nat → Nat → Nat) (sz : Nat) (hw : Nat) (w_heap : Nat) (w_names : Nat) (w_procedures : Nat) (w_turtles : Nat) (w_output : Nat) (w_reader : Nat) (w_line : Nat) (w_deeds : Nat) (w_machine : Nat) (w_lineList : Int32) (w_keptTop : Int32) (w_keptSeed : Int32) (w_canGoBack : Int32) (cI : ClassId) (cJ : ClassId) (o9 : Nat) (fo : Nat → Int64) (a : Int32) (b : Int32) (d : Int32) (hbad : ts_exists a = 0 ∨ b < 0 ∨ 1 < b ∨ d < 0 ∨ ¬ d ≤ 1) : Met l y_Law_place w_Law_place ({ frames := 7, cells := 1, slots := 6, locals := 173 }) (va_Pc [.ref hw, .int a, .int b, .int d, .ref o9] (fun U => U.heap.size = sz ∧ va_P (dC, dI) classes [(hw, .inr (0, [.ref w_heap, .ref w_names, .ref w_procedures, .ref w_turtles, .ref w_output, .ref w_reader, .ref w_line, .ref w_deeds, .ref w_machine, .int w_lineList, .int w_keptTop, .int w_keptSeed, .int w_canGoBack])), (o9, .inl (cJ, 1, .inr (.inl fo)))] U.heap ∧ va_K (dC, dI) classes [(cI, .int), (cJ, .long)] U ∧ va_D (fun _ => True) [(hw, .inr (0, [.ref w_heap, .ref w_names, .ref w_procedures, .ref w_turtles, .ref w_output, .ref w_reader, .ref w_line, .ref w_deeds, .ref w_machine, .int w_lineList, .int w_keptTop, .int w_keptSeed, .int w_canGoBack])), (o9, .inl (cJ, 1, .inr (.inl fo)))] ∧ tw_X (va_A [(hw, .inr (0, [.ref w_heap, .ref w_names, .ref w_procedures, .ref w_turtles, .ref w_output, .ref w_reader, .ref w_line, .ref w_deeds, .ref w_machine, .int w_lineList, .int w_keptTop, .int w_keptSeed, .int w_canGoBack])), (o9, .inl (cJ, 1, .inr (.inl fo)))] sz) U U.heap)) (va_Qi (fun (r : Int32) (_ : Unit) => r = 1) (fun (_ : Unit) t => va_P (dC, dI) classes [(hw, .inr (0, [.ref w_heap, .ref w_names, .ref w_procedures, .ref w_turtles, .ref w_output, .ref w_reader, .ref w_line, .ref w_deeds, .ref w_machine, .int w_lineList, .int w_keptTop, .int w_keptSeed, .int w_canGoBack])), (o9, .inl (cJ, 1, .inr (.inl fo)))] t.heap ∧ va_K (dC, dI) classes [(cI, .int), (cJ, .long)] t ∧ va_D (va_A [(hw, .inr (0, [.ref w_heap, .ref w_names, .ref w_procedures, .ref w_turtles, .ref w_output, .ref w_reader, .ref w_line, .ref w_deeds, .ref w_machine, .int w_lineList, .int w_keptTop, .int w_keptSeed, .int w_canGoBack])), (o9, .inl (cJ, 1, .inr (.inl fo)))] sz) [(hw, .inr (0, [.ref w_heap, .ref w_names, .ref w_procedures, .ref w_turtles, .ref w_output, .ref w_reader, .ref w_line, .ref w_deeds, .ref w_machine, .int w_lineList, .int w_keptTop, .int w_keptSeed, .int w_canGoBack])), (o9, .inl (cJ, 1, .inr (.inl fo)))]) (va_A [(hw, .inr (0, [.ref w_heap, .ref w_names, .ref w_procedures, .ref w_turtles, .ref w_output, .ref w_reader, .ref w_line, .ref w_deeds, .ref w_machine, .int w_lineList, .int w_keptTop, .int w_keptSeed, .int w_canGoBack])), (o9, .inl (cJ, 1, .inr (.inl fo)))] sz)) 1 6 (va_A [(hw, .inr (0, [.ref w_heap, .ref w_names, .ref w_procedures, .ref w_turtles, .ref w_output, .ref w_reader, .ref w_line, .ref w_deeds, .ref w_machine, .int w_lineList, .int w_keptTop, .int w_keptSeed, .int w_canGoBack])), (o9, .inl (cJ, 1, .inr (.inl fo)))] sz) := by
  refine va_MetW (cc := b_Law_place) (maxL := 6) (ret := (some .int)) (hh := [(0, 12, 15, 13)]) (by decide) rfl ?_
  intro p e s m args below meth c s₁ B hml hv
  obtain ⟨rfl, hsz, hP, hK, hD0, hX⟩ := hv
  have hx := B.exec
  have hb := B.bytes
  have hr := B.returns
  have hts := atoms_spec (ws := w_Law_place) B.pre
  have htt : ∀ w ∈ tw_T, w.before _ s = true := fun w h => hts w (List.mem_cons_of_mem _ h)
  have hown : s.vm.findClass R_Law = some m.cls := findClass_of_methodNamed B.named
  have hlocks := B.notSynchronized
  subst hsz
  have hD := hD0.self (sz := s.heap.size)
  generalize hAe : va_A [(hw, .inr (0, [.ref w_heap, .ref w_names, .ref w_procedures, .ref w_turtles, .ref w_output, .ref w_reader, .ref w_line, .ref w_deeds, .ref w_machine, .int w_lineList, .int w_keptTop, .int w_keptSeed, .int w_canGoBack])), (o9, .inl (cJ, 1, .inr (.inl fo)))] s.heap.size = A at hD hX ⊢
  have hA : ∀ q : Nat, s.heap.size ≤ q → A q := fun q h => by rw [← hAe]; exact Or.inr h
  have hS : va_S A s.heap s.heap [] := va_S.rf
  have hP : va_P (dC, dI) classes [(hw, .inr (0, [.ref w_heap, .ref w_names, .ref w_procedures, .ref w_turtles, .ref w_output, .ref w_reader, .ref w_line, .ref w_deeds, .ref w_machine, .int w_lineList, .int w_keptTop, .int w_keptSeed, .int w_canGoBack])), (o9, .inl (cJ, 1, .inr (.inl fo)))] s.heap := hP
  have hl := lv_entry ([.ref hw, .int a, .int b, .int d, .ref o9]) (n := 6) (Nat.le_of_ble_eq_true rfl)
  rw [lg_entry_eq]
  generalize (lg_sl ([.ref hw, .int a, .int b, .int d, .ref o9]) ++ List.replicate (6 - (lg_sl ([.ref hw, .int a, .int b, .int d, .ref o9])).length) Slot.unset).toArray = ls at hl ⊢
  have hl : lv_has ls 6 [(0, .ref hw), (1, .int a), (2, .int b), (3, .int d), (4, .ref o9)] := hl
  refine lv_aload hx hb d_Law_place_0 (lv_at hl 4 rfl) ?_
  refine lv_iconst (v := 0) hx hb d_Law_place_2 (by decide) ?_
  refine lv_aload_n hx hb d_Law_place_3 rfl (lv_at hl 0 rfl) ?_
  refine lv_iload_n hx hb d_Law_place_4 rfl (lv_at hl 1 rfl) ?_
  refine lv_iload_n hx hb d_Law_place_5 rfl (lv_at hl 2 rfl) ?_
  refine lv_iload_n hx hb d_Law_place_6 rfl (lv_at hl 3 rfl) ?_
  have hPc := hP.sub (ws' := []) [] rfl
  have hDc := hD.sub (ws' := []) [] (by decide) rfl
  have hKc := hK.sub (tys' := []) [] rfl
  have hFc := va_free (wc := []) hD hS hA [] rfl
  have htab : c.exceptionTable.toList.map (fun h => (h.startPc, h.endPc, h.handlerPc, h.catchType)) = [(0, 12, 15, 13)] := by
    obtain ⟨m9, meth9, c9, hn9, hm9, hc9, -, -, htab9, -⟩ := Cond.codeWith_spec (hts _ List.mem_cons_self)
    cases B.named.symm.trans hn9
    cases B.method.symm.trans hm9
    cases (Stand.of_body B).code.symm.trans hc9
    exact htab9
  refine tw_callT (As := [.int a, .int b, .int d]) (rest := [.int 0, .ref o9]) ⟨hx, hb, hml, hown, hts⟩ (c_World_place_bad l hf dC dI s.heap.size hw a b d hbad) (cwV 3 hts (tw_GV tw_cons cw_World_place lk_Law_7 in_World_place sel_World_place ini_World) rfl rfl rfl (by decide +kernel) ⟨Nat.le_of_ble_eq_true rfl, Nat.le_of_ble_eq_true rfl⟩) ⟨fun a U g mk q => by obtain ⟨q0, q1, qP, qK, qD, qE0⟩ := q; exact ⟨q0, q1, qP, va_K.moved (u := U) (U := U.calling g mk a) (Vm.Alike.refl U.vm) qK, qD, tw_X.blind qE0⟩, va_recv hK hP (ci := 0) (q0 := 0) rfl rfl, fun U hU hW => ⟨rfl, by rw [hU], by rw [hU]; exact hPc, va_K.moved hW.alike hKc, hDc.weaken (fun _ _ _ _ => trivial), tw_X.pass hX hS hFc hW hU⟩⟩ rfl hl.1 (lv_room (Nat.le_of_ble_eq_true rfl)) d_Law_place_7 ⟨Nat.le_of_ble_eq_true rfl, Nat.le_of_ble_eq_true rfl⟩ htab (by decide) (by decide) (htt _ lk_Law_13) (fun x9 H1 hz1 hk1 => ?_)
  have hP := hP.kept (fun k x hx9 => hk1 x.1 ((hP k x hx9).lt))
  have hS : va_S A s.heap H1 _ := ⟨Nat.le_trans hS.1 hz1, fun q h1 h2 => (hk1 q (Nat.lt_of_lt_of_le h1 hS.1)).trans (hS.2.1 q h1 h2), hS.2.2⟩
  clear hPc hDc hKc hFc hz1 hk1
  generalize H1 = H at hP hS ⊢
  have hP : va_P (dC, dI) classes [(hw, .inr (0, [.ref w_heap, .ref w_names, .ref w_procedures, .ref w_turtles, .ref w_output, .ref w_reader, .ref w_line, .ref w_deeds, .ref w_machine, .int w_lineList, .int w_keptTop, .int w_keptSeed, .int w_canGoBack])), (o9, .inl (cJ, 1, .inr (.inl fo)))] H := hP
  have hD : va_D A [(hw, .inr (0, [.ref w_heap, .ref w_names, .ref w_procedures, .ref w_turtles, .ref w_output, .ref w_reader, .ref w_line, .ref w_deeds, .ref w_machine, .int w_lineList, .int w_keptTop, .int w_keptSeed, .int w_canGoBack])), (o9, .inl (cJ, 1, .inr (.inl fo)))] := hD
  refine lv_astore (lv' := [(5, .ref x9), (0, .ref hw), (1, .int a), (2, .int b), (3, .int d), (4, .ref o9)]) hx hb d_Law_place_15 hl (by decide) rfl (fun ls hl => ?_)
  refine lv_iconst (v := 1) hx hb d_Law_place_17 (by decide) ?_
  have hP9 := hP.sub (ws' := [(hw, .inr (0, [.ref w_heap, .ref w_names, .ref w_procedures, .ref w_turtles, .ref w_output, .ref w_reader, .ref w_line, .ref w_deeds, .ref w_machine, .int w_lineList, .int w_keptTop, .int w_keptSeed, .int w_canGoBack])), (o9, .inl (cJ, 1, .inr (.inl fo)))]) [0, 1] rfl
  have hD9 := hD.sub (ws' := [(hw, .inr (0, [.ref w_heap, .ref w_names, .ref w_procedures, .ref w_turtles, .ref w_output, .ref w_reader, .ref w_line, .ref w_deeds, .ref w_machine, .int w_lineList, .int w_keptTop, .int w_keptSeed, .int w_canGoBack])), (o9, .inl (cJ, 1, .inr (.inl fo)))]) [0, 1] (by decide) rfl
  refine W.widen (k := 1) (n := 6) (Nat.le_of_ble_eq_true rfl) (Nat.le_of_ble_eq_true rfl) ?_
  exact W.iret (v := 1) hx hb hr (fun t9 ht hW => ⟨⟨1, (), rfl, rfl, by rw [ht]; exact hP9, va_K.moved hW.alike hK, hD9⟩, hS.F ht⟩) hS.2.2 d_Law_place_18

set_option maxHeartbeats 4000000 in
set_option maxRecDepth 100000 in
/-- side, as the law asks it, where there is none such -/
theorem c_Law_side_bad (l : Launch) (hf : l.flags = pinnedFlags ++ [noTraceFlag]) (dC : Nat → ClassId) (dI : Nat → Nat → Nat) (sz : Nat) (hw : Nat) (w_heap : Nat) (w_names : Nat) (w_procedures : Nat) (w_turtles : Nat) (w_output : Nat) (w_reader : Nat) (w_line : Nat) (w_deeds : Nat) (w_machine : Nat) (w_lineList : Int32) (w_keptTop : Int32) (w_keptSeed : Int32) (w_canGoBack : Int32) (cI : ClassId) (cJ : ClassId) (o9 : Nat) (fo : Nat → Int64) (a : Int32) (b : Int32) (d : Int32) (hbad : ts_exists a = 0 ∨ b < 0 ∨ ¬ b ≤ 1) : Met l y_Law_side w_Law_side ({ frames := 7, cells := 1, slots := 6, locals := 173 }) (va_Pc [.ref hw, .int a, .int b, .int d, .ref o9] (fun U => U.heap.size = sz ∧ va_P (dC, dI) classes [(hw, .inr (0, [.ref w_heap, .ref w_names, .ref w_procedures, .ref w_turtles, .ref w_output, .ref w_reader, .ref w_line, .ref w_deeds, .ref w_machine, .int w_lineList, .int w_keptTop, .int w_keptSeed, .int w_canGoBack])), (o9, .inl (cJ, 1, .inr (.inl fo)))] U.heap ∧ va_K (dC, dI) classes [(cI, .int), (cJ, .long)] U ∧ va_D (fun _ => True) [(hw, .inr (0, [.ref w_heap, .ref w_names, .ref w_procedures, .ref w_turtles, .ref w_output, .ref w_reader, .ref w_line, .ref w_deeds, .ref w_machine, .int w_lineList, .int w_keptTop, .int w_keptSeed, .int w_canGoBack])), (o9, .inl (cJ, 1, .inr (.inl fo)))] ∧ tw_X (va_A [(hw, .inr (0, [.ref w_heap, .ref w_names, .ref w_procedures, .ref w_turtles, .ref w_output, .ref w_reader, .ref w_line, .ref w_deeds, .ref w_machine, .int w_lineList, .int w_keptTop, .int w_keptSeed, .int w_canGoBack])), (o9, .inl (cJ, 1, .inr (.inl fo)))] sz) U U.heap)) (va_Qi (fun (r : Int32) (_ : Unit) => r = 1) (fun (_ : Unit) t => va_P (dC, dI) classes [(hw, .inr (0, [.ref w_heap, .ref w_names, .ref w_procedures, .ref w_turtles, .ref w_output, .ref w_reader, .ref w_line, .ref w_deeds, .ref w_machine, .int w_lineList, .int w_keptTop, .int w_keptSeed, .int w_canGoBack])), (o9, .inl (cJ, 1, .inr (.inl fo)))] t.heap ∧ va_K (dC, dI) classes [(cI, .int), (cJ, .long)] t ∧ va_D (va_A [(hw, .inr (0, [.ref w_heap, .ref w_names, .ref w_procedures, .ref w_turtles, .ref w_output, .ref w_reader, .ref w_line, .ref w_deeds, .ref w_machine, .int w_lineList, .int w_keptTop, .int w_keptSeed, .int w_canGoBack])), (o9, .inl (cJ, 1, .inr (.inl fo)))] sz) [(hw, .inr (0, [.ref w_heap, .ref w_names, .ref w_procedures, .ref w_turtles, .ref w_output, .ref w_reader, .ref w_line, .ref w_deeds, .ref w_machine, .int w_lineList, .int w_keptTop, .int w_keptSeed, .int w_canGoBack])), (o9, .inl (cJ, 1, .inr (.inl fo)))]) (va_A [(hw, .inr (0, [.ref w_heap, .ref w_names, .ref w_procedures, .ref w_turtles, .ref w_output, .ref w_reader, .ref w_line, .ref w_deeds, .ref w_machine, .int w_lineList, .int w_keptTop, .int w_keptSeed, .int w_canGoBack])), (o9, .inl (cJ, 1, .inr (.inl fo)))] sz)) 1 6 (va_A [(hw, .inr (0, [.ref w_heap, .ref w_names, .ref w_procedures, .ref w_turtles, .ref w_output, .ref w_reader, .ref w_line, .ref w_deeds, .ref w_machine, .int w_lineList, .int w_keptTop, .int w_keptSeed, .int w_canGoBack])), (o9, .inl (cJ, 1, .inr (.inl fo)))] sz) := by
  refine va_MetW (cc := b_Law_side) (maxL := 6) (ret := (some .int)) (hh := [(0, 12, 15, 13)]) (by decide) rfl ?_
  intro p e s m args below meth c s₁ B hml hv
  obtain ⟨rfl, hsz, hP, hK, hD0, hX⟩ := hv
  have hx := B.exec
  have hb := B.bytes
  have hr := B.returns
  have hts := atoms_spec (ws := w_Law_side) B.pre
  have htt : ∀ w ∈ tw_T, w.before _ s = true := fun w h => hts w (List.mem_cons_of_mem _ h)
  have hown : s.vm.findClass R_Law = some m.cls := findClass_of_methodNamed B.named
  have hlocks := B.notSynchronized
  subst hsz
  have hD := hD0.self (sz := s.heap.size)
  generalize hAe : va_A [(hw, .inr (0, [.ref w_heap, .ref w_names, .ref w_procedures, .ref w_turtles, .ref w_output, .ref w_reader, .ref w_line, .ref w_deeds, .ref w_machine, .int w_lineList, .int w_keptTop, .int w_keptSeed, .int w_canGoBack])), (o9, .inl (cJ, 1, .inr (.inl fo)))] s.heap.size = A at hD hX ⊢
  have hA : ∀ q : Nat, s.heap.size ≤ q → A q := fun q h => by rw [← hAe]; exact Or.inr h
  have hS : va_S A s.heap s.heap [] := va_S.rf
  have hP : va_P (dC, dI) classes [(hw, .inr (0, [.ref w_heap, .ref w_names, .ref w_procedures, .ref w_turtles, .ref w_output, .ref w_reader, .ref w_line, .ref w_deeds, .ref w_machine, .int w_lineList, .int w_keptTop, .int w_keptSeed, .int w_canGoBack])), (o9, .inl (cJ, 1, .inr (.inl fo)))] s.heap := hP
  have hl := lv_entry ([.ref hw, .int a, .int b, .int d, .ref o9]) (n := 6) (Nat.le_of_ble_eq_true rfl)
  rw [lg_entry_eq]
  generalize (lg_sl ([.ref hw, .int a, .int b, .int d, .ref o9]) ++ List.replicate (6 - (lg_sl ([.ref hw, .int a, .int b, .int d, .ref o9])).length) Slot.unset).toArray = ls at hl ⊢
  have hl : lv_has ls 6 [(0, .ref hw), (1, .int a), (2, .int b), (3, .int d), (4, .ref o9)] := hl
  refine lv_aload hx hb d_Law_side_0 (lv_at hl 4 rfl) ?_
  refine lv_iconst (v := 0) hx hb d_Law_side_2 (by decide) ?_
  refine lv_aload_n hx hb d_Law_side_3 rfl (lv_at hl 0 rfl) ?_
  refine lv_iload_n hx hb d_Law_side_4 rfl (lv_at hl 1 rfl) ?_
  refine lv_iload_n hx hb d_Law_side_5 rfl (lv_at hl 2 rfl) ?_
  refine lv_iload_n hx hb d_Law_side_6 rfl (lv_at hl 3 rfl) ?_
  have hPc := hP.sub (ws' := []) [] rfl
  have hDc := hD.sub (ws' := []) [] (by decide) rfl
  have hKc := hK.sub (tys' := []) [] rfl
  have hFc := va_free (wc := []) hD hS hA [] rfl
  have htab : c.exceptionTable.toList.map (fun h => (h.startPc, h.endPc, h.handlerPc, h.catchType)) = [(0, 12, 15, 13)] := by
    obtain ⟨m9, meth9, c9, hn9, hm9, hc9, -, -, htab9, -⟩ := Cond.codeWith_spec (hts _ List.mem_cons_self)
    cases B.named.symm.trans hn9
    cases B.method.symm.trans hm9
    cases (Stand.of_body B).code.symm.trans hc9
    exact htab9
  refine tw_callT (As := [.int a, .int b, .int d]) (rest := [.int 0, .ref o9]) ⟨hx, hb, hml, hown, hts⟩ (c_World_side_bad l hf dC dI s.heap.size hw a b d hbad) (cwV 3 hts (tw_GV tw_cons cw_World_side lk_Law_15 in_World_side sel_World_side ini_World) rfl rfl rfl (by decide +kernel) ⟨Nat.le_of_ble_eq_true rfl, Nat.le_of_ble_eq_true rfl⟩) ⟨fun a U g mk q => by obtain ⟨q0, q1, qP, qK, qD, qE0⟩ := q; exact ⟨q0, q1, qP, va_K.moved (u := U) (U := U.calling g mk a) (Vm.Alike.refl U.vm) qK, qD, tw_X.blind qE0⟩, va_recv hK hP (ci := 0) (q0 := 0) rfl rfl, fun U hU hW => ⟨rfl, by rw [hU], by rw [hU]; exact hPc, va_K.moved hW.alike hKc, hDc.weaken (fun _ _ _ _ => trivial), tw_X.pass hX hS hFc hW hU⟩⟩ rfl hl.1 (lv_room (Nat.le_of_ble_eq_true rfl)) d_Law_side_7 ⟨Nat.le_of_ble_eq_true rfl, Nat.le_of_ble_eq_true rfl⟩ htab (by decide) (by decide) (htt _ lk_Law_13) (fun x9 H1 hz1 hk1 => ?_)
  have hP := hP.kept (fun k x hx9 => hk1 x.1 ((hP k x hx9).lt))
  have hS : va_S A s.heap H1 _ := ⟨Nat.le_trans hS.1 hz1, fun q h1 h2 => (hk1 q (Nat.lt_of_lt_of_le h1 hS.1)).trans (hS.2.1 q h1 h2), hS.2.2⟩
  clear hPc hDc hKc hFc hz1 hk1
  generalize H1 = H at hP hS ⊢
  have hP : va_P (dC, dI) classes [(hw, .inr (0, [.ref w_heap, .ref w_names, .ref w_procedures, .ref w_turtles, .ref w_output, .ref w_reader, .ref w_line, .ref w_deeds, .ref w_machine, .int w_lineList, .int w_keptTop, .int w_keptSeed, .int w_canGoBack])), (o9, .inl (cJ, 1, .inr (.inl fo)))] H := hP
  have hD : va_D A [(hw, .inr (0, [.ref w_heap, .ref w_names, .ref w_procedures, .ref w_turtles, .ref w_output, .ref w_reader, .ref w_line, .ref w_deeds, .ref w_machine, .int w_lineList, .int w_keptTop, .int w_keptSeed, .int w_canGoBack])), (o9, .inl (cJ, 1, .inr (.inl fo)))] := hD
  refine lv_astore (lv' := [(5, .ref x9), (0, .ref hw), (1, .int a), (2, .int b), (3, .int d), (4, .ref o9)]) hx hb d_Law_side_15 hl (by decide) rfl (fun ls hl => ?_)
  refine lv_iconst (v := 1) hx hb d_Law_side_17 (by decide) ?_
  have hP9 := hP.sub (ws' := [(hw, .inr (0, [.ref w_heap, .ref w_names, .ref w_procedures, .ref w_turtles, .ref w_output, .ref w_reader, .ref w_line, .ref w_deeds, .ref w_machine, .int w_lineList, .int w_keptTop, .int w_keptSeed, .int w_canGoBack])), (o9, .inl (cJ, 1, .inr (.inl fo)))]) [0, 1] rfl
  have hD9 := hD.sub (ws' := [(hw, .inr (0, [.ref w_heap, .ref w_names, .ref w_procedures, .ref w_turtles, .ref w_output, .ref w_reader, .ref w_line, .ref w_deeds, .ref w_machine, .int w_lineList, .int w_keptTop, .int w_keptSeed, .int w_canGoBack])), (o9, .inl (cJ, 1, .inr (.inl fo)))]) [0, 1] (by decide) rfl
  refine W.widen (k := 1) (n := 6) (Nat.le_of_ble_eq_true rfl) (Nat.le_of_ble_eq_true rfl) ?_
  exact W.iret (v := 1) hx hb hr (fun t9 ht hW => ⟨⟨1, (), rfl, rfl, by rw [ht]; exact hP9, va_K.moved hW.alike hK, hD9⟩, hS.F ht⟩) hS.2.2 d_Law_side_18
