theorem d_Turtles_exists_0 : decode b_Turtles_exists 0 = .ok (.iload_n 0, 1) := by decide +kernel
theorem d_Turtles_exists_1 : decode b_Turtles_exists 1 = .ok (.ifCond .lt 13, 3) := by decide +kernel
theorem d_Turtles_exists_4 : decode b_Turtles_exists 4 = .ok (.iload_n 0, 1) := by decide +kernel
theorem d_Turtles_exists_5 : decode b_Turtles_exists 5 = .ok (.bipush 8, 2) := by decide +kernel
theorem d_Turtles_exists_7 : decode b_Turtles_exists 7 = .ok (.if_icmp .ge 7, 3) := by decide +kernel
theorem d_Turtles_exists_10 : decode b_Turtles_exists 10 = .ok (.iconst 1, 1) := by decide +kernel
theorem d_Turtles_exists_11 : decode b_Turtles_exists 11 = .ok (.goto 4, 3) := by decide +kernel
theorem d_Turtles_exists_14 : decode b_Turtles_exists 14 = .ok (.iconst 0, 1) := by decide +kernel
theorem d_Turtles_exists_15 : decode b_Turtles_exists 15 = .ok (.ireturn, 1) := by decide +kernel
theorem d_Turtles_dotAt_0 : decode b_Turtles_dotAt 0 = .ok (.iload_n 1, 1) := by decide +kernel
theorem d_Turtles_dotAt_1 : decode b_Turtles_dotAt 1 = .ok (.bipush 32, 2) := by decide +kernel
theorem d_Turtles_dotAt_3 : decode b_Turtles_dotAt 3 = .ok (.iadd, 1) := by decide +kernel
theorem d_Turtles_dotAt_4 : decode b_Turtles_dotAt 4 = .ok (.bipush 64, 2) := by decide +kernel
theorem d_Turtles_dotAt_6 : decode b_Turtles_dotAt 6 = .ok (.imul, 1) := by decide +kernel
theorem d_Turtles_dotAt_7 : decode b_Turtles_dotAt 7 = .ok (.iload_n 0, 1) := by decide +kernel
theorem d_Turtles_dotAt_8 : decode b_Turtles_dotAt 8 = .ok (.iadd, 1) := by decide +kernel
theorem d_Turtles_dotAt_9 : decode b_Turtles_dotAt 9 = .ok (.bipush 32, 2) := by decide +kernel
theorem d_Turtles_dotAt_11 : decode b_Turtles_dotAt 11 = .ok (.iadd, 1) := by decide +kernel
theorem d_Turtles_dotAt_12 : decode b_Turtles_dotAt 12 = .ok (.sipush 4095, 3) := by decide +kernel
theorem d_Turtles_dotAt_15 : decode b_Turtles_dotAt 15 = .ok (.iand, 1) := by decide +kernel
theorem d_Turtles_dotAt_16 : decode b_Turtles_dotAt 16 = .ok (.ireturn, 1) := by decide +kernel
theorem d_Heap_isNumber_0 : decode b_Heap_isNumber 0 = .ok (.iload_n 0, 1) := by decide +kernel
theorem d_Heap_isNumber_1 : decode b_Heap_isNumber 1 = .ok (.iconst 1, 1) := by decide +kernel
theorem d_Heap_isNumber_2 : decode b_Heap_isNumber 2 = .ok (.iand, 1) := by decide +kernel
theorem d_Heap_isNumber_3 : decode b_Heap_isNumber 3 = .ok (.ifCond .ne 7, 3) := by decide +kernel
theorem d_Heap_isNumber_6 : decode b_Heap_isNumber 6 = .ok (.iconst 1, 1) := by decide +kernel
theorem d_Heap_isNumber_7 : decode b_Heap_isNumber 7 = .ok (.goto 4, 3) := by decide +kernel
theorem d_Heap_isNumber_10 : decode b_Heap_isNumber 10 = .ok (.iconst 0, 1) := by decide +kernel
theorem d_Heap_isNumber_11 : decode b_Heap_isNumber 11 = .ok (.ireturn, 1) := by decide +kernel
theorem d_Heap_isList_0 : decode b_Heap_isList 0 = .ok (.iload_n 0, 1) := by decide +kernel
theorem d_Heap_isList_1 : decode b_Heap_isList 1 = .ok (.iconst 3, 1) := by decide +kernel
theorem d_Heap_isList_2 : decode b_Heap_isList 2 = .ok (.iand, 1) := by decide +kernel
theorem d_Heap_isList_3 : decode b_Heap_isList 3 = .ok (.iconst 1, 1) := by decide +kernel
theorem d_Heap_isList_4 : decode b_Heap_isList 4 = .ok (.if_icmp .ne 7, 3) := by decide +kernel
theorem d_Heap_isList_7 : decode b_Heap_isList 7 = .ok (.iconst 1, 1) := by decide +kernel
theorem d_Heap_isList_8 : decode b_Heap_isList 8 = .ok (.goto 4, 3) := by decide +kernel
theorem d_Heap_isList_11 : decode b_Heap_isList 11 = .ok (.iconst 0, 1) := by decide +kernel
theorem d_Heap_isList_12 : decode b_Heap_isList 12 = .ok (.ireturn, 1) := by decide +kernel
theorem d_Heap_isWord_0 : decode b_Heap_isWord 0 = .ok (.iload_n 0, 1) := by decide +kernel
theorem d_Heap_isWord_1 : decode b_Heap_isWord 1 = .ok (.iconst 3, 1) := by decide +kernel
theorem d_Heap_isWord_2 : decode b_Heap_isWord 2 = .ok (.iand, 1) := by decide +kernel
theorem d_Heap_isWord_3 : decode b_Heap_isWord 3 = .ok (.iconst 3, 1) := by decide +kernel
theorem d_Heap_isWord_4 : decode b_Heap_isWord 4 = .ok (.if_icmp .ne 7, 3) := by decide +kernel
theorem d_Heap_isWord_7 : decode b_Heap_isWord 7 = .ok (.iconst 1, 1) := by decide +kernel
theorem d_Heap_isWord_8 : decode b_Heap_isWord 8 = .ok (.goto 4, 3) := by decide +kernel
theorem d_Heap_isWord_11 : decode b_Heap_isWord 11 = .ok (.iconst 0, 1) := by decide +kernel
theorem d_Heap_isWord_12 : decode b_Heap_isWord 12 = .ok (.ireturn, 1) := by decide +kernel
theorem d_Heap_number_0 : decode b_Heap_number 0 = .ok (.iload_n 0, 1) := by decide +kernel
theorem d_Heap_number_1 : decode b_Heap_number 1 = .ok (.iconst 1, 1) := by decide +kernel
theorem d_Heap_number_2 : decode b_Heap_number 2 = .ok (.ishl, 1) := by decide +kernel
theorem d_Heap_number_3 : decode b_Heap_number 3 = .ok (.ireturn, 1) := by decide +kernel
theorem d_Turtles_part_0 : decode b_Turtles_part 0 = .ok (.iload_n 1, 1) := by decide +kernel
theorem d_Turtles_part_1 : decode b_Turtles_part 1 = .ok (.invokestatic 30, 3) := by decide +kernel
theorem d_Turtles_part_4 : decode b_Turtles_part 4 = .ok (.ifCond .eq 27, 3) := by decide +kernel
theorem d_Turtles_part_7 : decode b_Turtles_part 7 = .ok (.iload_n 2, 1) := by decide +kernel
theorem d_Turtles_part_8 : decode b_Turtles_part 8 = .ok (.ifCond .lt 23, 3) := by decide +kernel
theorem d_Turtles_part_11 : decode b_Turtles_part 11 = .ok (.iload_n 2, 1) := by decide +kernel
theorem d_Turtles_part_12 : decode b_Turtles_part 12 = .ok (.bipush 7, 2) := by decide +kernel
theorem d_Turtles_part_14 : decode b_Turtles_part 14 = .ok (.if_icmp .ge 17, 3) := by decide +kernel
theorem d_Turtles_part_17 : decode b_Turtles_part 17 = .ok (.aload_n 0, 1) := by decide +kernel
theorem d_Turtles_part_18 : decode b_Turtles_part 18 = .ok (.getfield 11, 3) := by decide +kernel
theorem d_Turtles_part_21 : decode b_Turtles_part 21 = .ok (.iload_n 1, 1) := by decide +kernel
theorem d_Turtles_part_22 : decode b_Turtles_part 22 = .ok (.bipush 7, 2) := by decide +kernel
theorem d_Turtles_part_24 : decode b_Turtles_part 24 = .ok (.imul, 1) := by decide +kernel
theorem d_Turtles_part_25 : decode b_Turtles_part 25 = .ok (.iload_n 2, 1) := by decide +kernel
theorem d_Turtles_part_26 : decode b_Turtles_part 26 = .ok (.iadd, 1) := by decide +kernel
theorem d_Turtles_part_27 : decode b_Turtles_part 27 = .ok (.iaload, 1) := by decide +kernel
theorem d_Turtles_part_28 : decode b_Turtles_part 28 = .ok (.goto 4, 3) := by decide +kernel
theorem d_Turtles_part_31 : decode b_Turtles_part 31 = .ok (.iconst 0, 1) := by decide +kernel
theorem d_Turtles_part_32 : decode b_Turtles_part 32 = .ok (.ireturn, 1) := by decide +kernel
theorem lk_Turtles_30 : Cond.methodLink "TurtleWorld$Turtles" 30 ⟨"TurtleWorld$Turtles", "exists", "(I)Z"⟩ ∈ tw_T := tw_i6 16 (by decide +kernel) (by decide +kernel)
theorem st_Turtles_exists : Cond.static ⟨"TurtleWorld$Turtles", "exists", "(I)Z"⟩ ∈ tw_T := tw_i6 17 (by decide +kernel) (by decide +kernel)
theorem ini_Turtles : Cond.initialized "TurtleWorld$Turtles" ∈ tw_T := tw_i1 13 (by decide +kernel) (by decide +kernel)
theorem lk_Turtles_11 : Cond.fieldLink "TurtleWorld$Turtles" 11 "TurtleWorld$Turtles" "parts" "[I" ∈ tw_T := tw_i2 86 (by decide +kernel) (by decide +kernel)
def ts_exists (t : Int32) : Int32 := if t < 0 then 0 else if 8 ≤ t then 0 else 1
def ts_dotAt (i j : Int32) : Int32 := ((j + 32) * 64 + i + 32) &&& 4095

set_option maxHeartbeats 4000000 in
set_option maxRecDepth 100000 in
/-- whether there is such a turtle -/
theorem c_Turtles_exists (l : Launch) (dC : Nat → ClassId) (dI : Nat → Nat → Nat) (sz : Nat) (t : Int32)  : Met l y_Turtles_exists w_Turtles_exists ({ frames := 0, cells := 0, slots := 0, locals := 0 }) (va_Pc [.int t] (fun U => U.heap.size = sz ∧ va_P (dC, dI) classes ([] : va_W) U.heap ∧ va_K (dC, dI) classes [] U ∧ va_D (fun _ => True) ([] : va_W))) (va_Qi (fun (r : Int32) (_ : Unit) => r = ts_exists t) (fun (_ : Unit) t => va_P (dC, dI) classes ([] : va_W) t.heap ∧ va_K (dC, dI) classes [] t ∧ va_D (va_A ([] : va_W) sz) ([] : va_W)) (va_A ([] : va_W) sz)) 0 0 (va_A ([] : va_W) sz) := by
  refine Met.ofW (cc := b_Turtles_exists) (maxL := 1) (ret := (some .boolean)) (by decide) rfl ?_
  intro p e s m args below meth c s₁ B hml hv
  obtain ⟨rfl, hsz, hP, hK, hD0⟩ := hv
  have hx := B.exec
  have hb := B.bytes
  have hr := B.returns
  have hts := atoms_spec (ws := w_Turtles_exists) B.pre
  have htt : ∀ w ∈ tw_T, w.before _ s = true := fun w h => hts w (List.mem_cons_of_mem _ h)
  have hown : s.vm.findClass R_Turtles = some m.cls := findClass_of_methodNamed B.named
  have hlocks := B.notSynchronized
  subst hsz
  have hD := hD0.self (sz := s.heap.size)
  generalize hAe : va_A ([] : va_W) s.heap.size = A at hD ⊢
  have hA : ∀ q : Nat, s.heap.size ≤ q → A q := fun q h => by rw [← hAe]; exact Or.inr h
  have hS : va_S A s.heap s.heap [] := va_S.rf
  have hP : va_P (dC, dI) classes ([] : va_W) s.heap := hP
  have hl := lv_entry ([.int t]) (n := 1) (Nat.le_of_ble_eq_true rfl)
  rw [lg_entry_eq]
  generalize (lg_sl ([.int t]) ++ List.replicate (1 - (lg_sl ([.int t])).length) Slot.unset).toArray = ls at hl ⊢
  have hl : lv_has ls 1 [(0, .int t)] := hl
  refine lv_iload_n hx hb d_Turtles_exists_0 rfl (lv_at hl 0 rfl) ?_
  refine lv_if_lt (tgt := 14) hx hb d_Turtles_exists_1 (by decide) (fun c_1 => ?_) (fun c_1 => ?_)
  · refine lv_iconst (v := 0) hx hb d_Turtles_exists_14 (by decide) ?_
    have hP9 := hP.sub (ws' := []) [] rfl
    have hD9 := hD.sub (ws' := []) [] (by decide) rfl
    exact W.zret (v := 0) hx hb hr (by decide) (fun t9 ht hW => ⟨⟨0, (), rfl, by unfold ts_exists; rw [if_pos c_1], by rw [ht]; exact hP9, va_K.moved hW.alike hK, hD9⟩, hS.F ht⟩) hS.2.2 d_Turtles_exists_15
  · refine lv_iload_n hx hb d_Turtles_exists_4 rfl (lv_at hl 0 rfl) ?_
    refine lv_bipush (v := 8) hx hb d_Turtles_exists_5 (by decide) ?_
    refine lv_icmp_ge (tgt := 14) hx hb d_Turtles_exists_7 (by decide) (fun c_2 => ?_) (fun c_2 => ?_)
    · refine lv_iconst (v := 0) hx hb d_Turtles_exists_14 (by decide) ?_
      have hP9 := hP.sub (ws' := []) [] rfl
      have hD9 := hD.sub (ws' := []) [] (by decide) rfl
      exact W.zret (v := 0) hx hb hr (by decide) (fun t9 ht hW => ⟨⟨0, (), rfl, by unfold ts_exists; rw [if_neg c_1, if_pos c_2], by rw [ht]; exact hP9, va_K.moved hW.alike hK, hD9⟩, hS.F ht⟩) hS.2.2 d_Turtles_exists_15
    · refine lv_iconst (v := 1) hx hb d_Turtles_exists_10 (by decide) ?_
      refine lv_goto (tgt := 15) hx hb d_Turtles_exists_11 (by decide) ?_
      have hP9 := hP.sub (ws' := []) [] rfl
      have hD9 := hD.sub (ws' := []) [] (by decide) rfl
      exact W.zret (v := 1) hx hb hr (by decide) (fun t9 ht hW => ⟨⟨1, (), rfl, by unfold ts_exists; rw [if_neg c_1, if_neg c_2], by rw [ht]; exact hP9, va_K.moved hW.alike hK, hD9⟩, hS.F ht⟩) hS.2.2 d_Turtles_exists_15

set_option maxHeartbeats 4000000 in
set_option maxRecDepth 100000 in
/-- the place of a DOT in the row -/
theorem c_Turtles_dotAt (l : Launch) (dC : Nat → ClassId) (dI : Nat → Nat → Nat) (sz : Nat) (i : Int32) (j : Int32)  : Met l y_Turtles_dotAt w_Turtles_dotAt ({ frames := 0, cells := 0, slots := 0, locals := 0 }) (va_Pc [.int i, .int j] (fun U => U.heap.size = sz ∧ va_P (dC, dI) classes ([] : va_W) U.heap ∧ va_K (dC, dI) classes [] U ∧ va_D (fun _ => True) ([] : va_W))) (va_Qi (fun (r : Int32) (_ : Unit) => r = ts_dotAt i j) (fun (_ : Unit) t => va_P (dC, dI) classes ([] : va_W) t.heap ∧ va_K (dC, dI) classes [] t ∧ va_D (va_A ([] : va_W) sz) ([] : va_W)) (va_A ([] : va_W) sz)) 0 0 (va_A ([] : va_W) sz) := by
  refine Met.ofW (cc := b_Turtles_dotAt) (maxL := 2) (ret := (some .int)) (by decide) rfl ?_
  intro p e s m args below meth c s₁ B hml hv
  obtain ⟨rfl, hsz, hP, hK, hD0⟩ := hv
  have hx := B.exec
  have hb := B.bytes
  have hr := B.returns
  have hts := atoms_spec (ws := w_Turtles_dotAt) B.pre
  have htt : ∀ w ∈ tw_T, w.before _ s = true := fun w h => hts w (List.mem_cons_of_mem _ h)
  have hown : s.vm.findClass R_Turtles = some m.cls := findClass_of_methodNamed B.named
  have hlocks := B.notSynchronized
  subst hsz
  have hD := hD0.self (sz := s.heap.size)
  generalize hAe : va_A ([] : va_W) s.heap.size = A at hD ⊢
  have hA : ∀ q : Nat, s.heap.size ≤ q → A q := fun q h => by rw [← hAe]; exact Or.inr h
  have hS : va_S A s.heap s.heap [] := va_S.rf
  have hP : va_P (dC, dI) classes ([] : va_W) s.heap := hP
  have hl := lv_entry ([.int i, .int j]) (n := 2) (Nat.le_of_ble_eq_true rfl)
  rw [lg_entry_eq]
  generalize (lg_sl ([.int i, .int j]) ++ List.replicate (2 - (lg_sl ([.int i, .int j])).length) Slot.unset).toArray = ls at hl ⊢
  have hl : lv_has ls 2 [(0, .int i), (1, .int j)] := hl
  refine lv_iload_n hx hb d_Turtles_dotAt_0 rfl (lv_at hl 1 rfl) ?_
  refine lv_bipush (v := 32) hx hb d_Turtles_dotAt_1 (by decide) ?_
  refine lv_iadd hx hb d_Turtles_dotAt_3 ?_
  refine lv_bipush (v := 64) hx hb d_Turtles_dotAt_4 (by decide) ?_
  refine lv_imul hx hb d_Turtles_dotAt_6 ?_
  refine lv_iload_n hx hb d_Turtles_dotAt_7 rfl (lv_at hl 0 rfl) ?_
  refine lv_iadd hx hb d_Turtles_dotAt_8 ?_
  refine lv_bipush (v := 32) hx hb d_Turtles_dotAt_9 (by decide) ?_
  refine lv_iadd hx hb d_Turtles_dotAt_11 ?_
  refine lv_sipush (v := 4095) hx hb d_Turtles_dotAt_12 (by decide) ?_
  refine lv_iand hx hb d_Turtles_dotAt_15 ?_
  have hP9 := hP.sub (ws' := []) [] rfl
  have hD9 := hD.sub (ws' := []) [] (by decide) rfl
  exact W.iret (v := ((((j + 32) * 64) + i) + 32) &&& 4095) hx hb hr (fun t9 ht hW => ⟨⟨((((j + 32) * 64) + i) + 32) &&& 4095, (), rfl, by unfold ts_dotAt; rfl, by rw [ht]; exact hP9, va_K.moved hW.alike hK, hD9⟩, hS.F ht⟩) hS.2.2 d_Turtles_dotAt_16

def hs_isNumber (v : Int32) : Int32 := if v &&& 1 = 0 then 1 else 0
def hs_isList (v : Int32) : Int32 := if v &&& 3 = 1 then 1 else 0
def hs_isWord (v : Int32) : Int32 := if v &&& 3 = 3 then 1 else 0
def hs_number (n : Int32) : Int32 := n <<< (1 &&& 31)

set_option maxHeartbeats 4000000 in
set_option maxRecDepth 100000 in
theorem c_Heap_isNumber (l : Launch) (dC : Nat → ClassId) (dI : Nat → Nat → Nat) (sz : Nat) (v : Int32)  : Met l y_Heap_isNumber w_Heap_isNumber ({ frames := 0, cells := 0, slots := 0, locals := 0 }) (va_Pc [.int v] (fun U => U.heap.size = sz ∧ va_P (dC, dI) classes ([] : va_W) U.heap ∧ va_K (dC, dI) classes [] U ∧ va_D (fun _ => True) ([] : va_W))) (va_Qi (fun (r : Int32) (_ : Unit) => r = hs_isNumber v) (fun (_ : Unit) t => va_P (dC, dI) classes ([] : va_W) t.heap ∧ va_K (dC, dI) classes [] t ∧ va_D (va_A ([] : va_W) sz) ([] : va_W)) (va_A ([] : va_W) sz)) 0 0 (va_A ([] : va_W) sz) := by
  refine Met.ofW (cc := b_Heap_isNumber) (maxL := 1) (ret := (some .boolean)) (by decide) rfl ?_
  intro p e s m args below meth c s₁ B hml hv
  obtain ⟨rfl, hsz, hP, hK, hD0⟩ := hv
  have hx := B.exec
  have hb := B.bytes
  have hr := B.returns
  have hts := atoms_spec (ws := w_Heap_isNumber) B.pre
  have htt : ∀ w ∈ tw_T, w.before _ s = true := fun w h => hts w (List.mem_cons_of_mem _ h)
  have hown : s.vm.findClass R_Heap = some m.cls := findClass_of_methodNamed B.named
  have hlocks := B.notSynchronized
  subst hsz
  have hD := hD0.self (sz := s.heap.size)
  generalize hAe : va_A ([] : va_W) s.heap.size = A at hD ⊢
  have hA : ∀ q : Nat, s.heap.size ≤ q → A q := fun q h => by rw [← hAe]; exact Or.inr h
  have hS : va_S A s.heap s.heap [] := va_S.rf
  have hP : va_P (dC, dI) classes ([] : va_W) s.heap := hP
  have hl := lv_entry ([.int v]) (n := 1) (Nat.le_of_ble_eq_true rfl)
  rw [lg_entry_eq]
  generalize (lg_sl ([.int v]) ++ List.replicate (1 - (lg_sl ([.int v])).length) Slot.unset).toArray = ls at hl ⊢
  have hl : lv_has ls 1 [(0, .int v)] := hl
  refine lv_iload_n hx hb d_Heap_isNumber_0 rfl (lv_at hl 0 rfl) ?_
  refine lv_iconst (v := 1) hx hb d_Heap_isNumber_1 (by decide) ?_
  refine lv_iand hx hb d_Heap_isNumber_2 ?_
  refine lv_if_ne (tgt := 10) hx hb d_Heap_isNumber_3 (by decide) (fun c_1 => ?_) (fun c_1 => ?_)
  · refine lv_iconst (v := 0) hx hb d_Heap_isNumber_10 (by decide) ?_
    have hP9 := hP.sub (ws' := []) [] rfl
    have hD9 := hD.sub (ws' := []) [] (by decide) rfl
    exact W.zret (v := 0) hx hb hr (by decide) (fun t9 ht hW => ⟨⟨0, (), rfl, by unfold hs_isNumber; rw [if_neg c_1], by rw [ht]; exact hP9, va_K.moved hW.alike hK, hD9⟩, hS.F ht⟩) hS.2.2 d_Heap_isNumber_11
  · refine lv_iconst (v := 1) hx hb d_Heap_isNumber_6 (by decide) ?_
    refine lv_goto (tgt := 11) hx hb d_Heap_isNumber_7 (by decide) ?_
    have hP9 := hP.sub (ws' := []) [] rfl
    have hD9 := hD.sub (ws' := []) [] (by decide) rfl
    exact W.zret (v := 1) hx hb hr (by decide) (fun t9 ht hW => ⟨⟨1, (), rfl, by unfold hs_isNumber; rw [if_pos c_1], by rw [ht]; exact hP9, va_K.moved hW.alike hK, hD9⟩, hS.F ht⟩) hS.2.2 d_Heap_isNumber_11

set_option maxHeartbeats 4000000 in
set_option maxRecDepth 100000 in
theorem c_Heap_isList (l : Launch) (dC : Nat → ClassId) (dI : Nat → Nat → Nat) (sz : Nat) (v : Int32)  : Met l y_Heap_isList w_Heap_isList ({ frames := 0, cells := 0, slots := 0, locals := 0 }) (va_Pc [.int v] (fun U => U.heap.size = sz ∧ va_P (dC, dI) classes ([] : va_W) U.heap ∧ va_K (dC, dI) classes [] U ∧ va_D (fun _ => True) ([] : va_W))) (va_Qi (fun (r : Int32) (_ : Unit) => r = hs_isList v) (fun (_ : Unit) t => va_P (dC, dI) classes ([] : va_W) t.heap ∧ va_K (dC, dI) classes [] t ∧ va_D (va_A ([] : va_W) sz) ([] : va_W)) (va_A ([] : va_W) sz)) 0 0 (va_A ([] : va_W) sz) := by
  refine Met.ofW (cc := b_Heap_isList) (maxL := 1) (ret := (some .boolean)) (by decide) rfl ?_
  intro p e s m args below meth c s₁ B hml hv
  obtain ⟨rfl, hsz, hP, hK, hD0⟩ := hv
  have hx := B.exec
  have hb := B.bytes
  have hr := B.returns
  have hts := atoms_spec (ws := w_Heap_isList) B.pre
  have htt : ∀ w ∈ tw_T, w.before _ s = true := fun w h => hts w (List.mem_cons_of_mem _ h)
  have hown : s.vm.findClass R_Heap = some m.cls := findClass_of_methodNamed B.named
  have hlocks := B.notSynchronized
  subst hsz
  have hD := hD0.self (sz := s.heap.size)
  generalize hAe : va_A ([] : va_W) s.heap.size = A at hD ⊢
  have hA : ∀ q : Nat, s.heap.size ≤ q → A q := fun q h => by rw [← hAe]; exact Or.inr h
  have hS : va_S A s.heap s.heap [] := va_S.rf
  have hP : va_P (dC, dI) classes ([] : va_W) s.heap := hP
  have hl := lv_entry ([.int v]) (n := 1) (Nat.le_of_ble_eq_true rfl)
  rw [lg_entry_eq]
  generalize (lg_sl ([.int v]) ++ List.replicate (1 - (lg_sl ([.int v])).length) Slot.unset).toArray = ls at hl ⊢
  have hl : lv_has ls 1 [(0, .int v)] := hl
  refine lv_iload_n hx hb d_Heap_isList_0 rfl (lv_at hl 0 rfl) ?_
  refine lv_iconst (v := 3) hx hb d_Heap_isList_1 (by decide) ?_
  refine lv_iand hx hb d_Heap_isList_2 ?_
  refine lv_iconst (v := 1) hx hb d_Heap_isList_3 (by decide) ?_
  refine lv_icmp_ne (tgt := 11) hx hb d_Heap_isList_4 (by decide) (fun c_1 => ?_) (fun c_1 => ?_)
  · refine lv_iconst (v := 0) hx hb d_Heap_isList_11 (by decide) ?_
    have hP9 := hP.sub (ws' := []) [] rfl
    have hD9 := hD.sub (ws' := []) [] (by decide) rfl
    exact W.zret (v := 0) hx hb hr (by decide) (fun t9 ht hW => ⟨⟨0, (), rfl, by unfold hs_isList; rw [if_neg c_1], by rw [ht]; exact hP9, va_K.moved hW.alike hK, hD9⟩, hS.F ht⟩) hS.2.2 d_Heap_isList_12
  · refine lv_iconst (v := 1) hx hb d_Heap_isList_7 (by decide) ?_
    refine lv_goto (tgt := 12) hx hb d_Heap_isList_8 (by decide) ?_
    have hP9 := hP.sub (ws' := []) [] rfl
    have hD9 := hD.sub (ws' := []) [] (by decide) rfl
    exact W.zret (v := 1) hx hb hr (by decide) (fun t9 ht hW => ⟨⟨1, (), rfl, by unfold hs_isList; rw [if_pos c_1], by rw [ht]; exact hP9, va_K.moved hW.alike hK, hD9⟩, hS.F ht⟩) hS.2.2 d_Heap_isList_12

set_option maxHeartbeats 4000000 in
set_option maxRecDepth 100000 in
theorem c_Heap_isWord (l : Launch) (dC : Nat → ClassId) (dI : Nat → Nat → Nat) (sz : Nat) (v : Int32)  : Met l y_Heap_isWord w_Heap_isWord ({ frames := 0, cells := 0, slots := 0, locals := 0 }) (va_Pc [.int v] (fun U => U.heap.size = sz ∧ va_P (dC, dI) classes ([] : va_W) U.heap ∧ va_K (dC, dI) classes [] U ∧ va_D (fun _ => True) ([] : va_W))) (va_Qi (fun (r : Int32) (_ : Unit) => r = hs_isWord v) (fun (_ : Unit) t => va_P (dC, dI) classes ([] : va_W) t.heap ∧ va_K (dC, dI) classes [] t ∧ va_D (va_A ([] : va_W) sz) ([] : va_W)) (va_A ([] : va_W) sz)) 0 0 (va_A ([] : va_W) sz) := by
  refine Met.ofW (cc := b_Heap_isWord) (maxL := 1) (ret := (some .boolean)) (by decide) rfl ?_
  intro p e s m args below meth c s₁ B hml hv
  obtain ⟨rfl, hsz, hP, hK, hD0⟩ := hv
  have hx := B.exec
  have hb := B.bytes
  have hr := B.returns
  have hts := atoms_spec (ws := w_Heap_isWord) B.pre
  have htt : ∀ w ∈ tw_T, w.before _ s = true := fun w h => hts w (List.mem_cons_of_mem _ h)
  have hown : s.vm.findClass R_Heap = some m.cls := findClass_of_methodNamed B.named
  have hlocks := B.notSynchronized
  subst hsz
  have hD := hD0.self (sz := s.heap.size)
  generalize hAe : va_A ([] : va_W) s.heap.size = A at hD ⊢
  have hA : ∀ q : Nat, s.heap.size ≤ q → A q := fun q h => by rw [← hAe]; exact Or.inr h
  have hS : va_S A s.heap s.heap [] := va_S.rf
  have hP : va_P (dC, dI) classes ([] : va_W) s.heap := hP
  have hl := lv_entry ([.int v]) (n := 1) (Nat.le_of_ble_eq_true rfl)
  rw [lg_entry_eq]
  generalize (lg_sl ([.int v]) ++ List.replicate (1 - (lg_sl ([.int v])).length) Slot.unset).toArray = ls at hl ⊢
  have hl : lv_has ls 1 [(0, .int v)] := hl
  refine lv_iload_n hx hb d_Heap_isWord_0 rfl (lv_at hl 0 rfl) ?_
  refine lv_iconst (v := 3) hx hb d_Heap_isWord_1 (by decide) ?_
  refine lv_iand hx hb d_Heap_isWord_2 ?_
  refine lv_iconst (v := 3) hx hb d_Heap_isWord_3 (by decide) ?_
  refine lv_icmp_ne (tgt := 11) hx hb d_Heap_isWord_4 (by decide) (fun c_1 => ?_) (fun c_1 => ?_)
  · refine lv_iconst (v := 0) hx hb d_Heap_isWord_11 (by decide) ?_
    have hP9 := hP.sub (ws' := []) [] rfl
    have hD9 := hD.sub (ws' := []) [] (by decide) rfl
    exact W.zret (v := 0) hx hb hr (by decide) (fun t9 ht hW => ⟨⟨0, (), rfl, by unfold hs_isWord; rw [if_neg c_1], by rw [ht]; exact hP9, va_K.moved hW.alike hK, hD9⟩, hS.F ht⟩) hS.2.2 d_Heap_isWord_12
  · refine lv_iconst (v := 1) hx hb d_Heap_isWord_7 (by decide) ?_
    refine lv_goto (tgt := 12) hx hb d_Heap_isWord_8 (by decide) ?_
    have hP9 := hP.sub (ws' := []) [] rfl
    have hD9 := hD.sub (ws' := []) [] (by decide) rfl
    exact W.zret (v := 1) hx hb hr (by decide) (fun t9 ht hW => ⟨⟨1, (), rfl, by unfold hs_isWord; rw [if_pos c_1], by rw [ht]; exact hP9, va_K.moved hW.alike hK, hD9⟩, hS.F ht⟩) hS.2.2 d_Heap_isWord_12

set_option maxHeartbeats 4000000 in
set_option maxRecDepth 100000 in
theorem c_Heap_number (l : Launch) (dC : Nat → ClassId) (dI : Nat → Nat → Nat) (sz : Nat) (n : Int32)  : Met l y_Heap_number w_Heap_number ({ frames := 0, cells := 0, slots := 0, locals := 0 }) (va_Pc [.int n] (fun U => U.heap.size = sz ∧ va_P (dC, dI) classes ([] : va_W) U.heap ∧ va_K (dC, dI) classes [] U ∧ va_D (fun _ => True) ([] : va_W))) (va_Qi (fun (r : Int32) (_ : Unit) => r = hs_number n) (fun (_ : Unit) t => va_P (dC, dI) classes ([] : va_W) t.heap ∧ va_K (dC, dI) classes [] t ∧ va_D (va_A ([] : va_W) sz) ([] : va_W)) (va_A ([] : va_W) sz)) 0 0 (va_A ([] : va_W) sz) := by
  refine Met.ofW (cc := b_Heap_number) (maxL := 1) (ret := (some .int)) (by decide) rfl ?_
  intro p e s m args below meth c s₁ B hml hv
  obtain ⟨rfl, hsz, hP, hK, hD0⟩ := hv
  have hx := B.exec
  have hb := B.bytes
  have hr := B.returns
  have hts := atoms_spec (ws := w_Heap_number) B.pre
  have htt : ∀ w ∈ tw_T, w.before _ s = true := fun w h => hts w (List.mem_cons_of_mem _ h)
  have hown : s.vm.findClass R_Heap = some m.cls := findClass_of_methodNamed B.named
  have hlocks := B.notSynchronized
  subst hsz
  have hD := hD0.self (sz := s.heap.size)
  generalize hAe : va_A ([] : va_W) s.heap.size = A at hD ⊢
  have hA : ∀ q : Nat, s.heap.size ≤ q → A q := fun q h => by rw [← hAe]; exact Or.inr h
  have hS : va_S A s.heap s.heap [] := va_S.rf
  have hP : va_P (dC, dI) classes ([] : va_W) s.heap := hP
  have hl := lv_entry ([.int n]) (n := 1) (Nat.le_of_ble_eq_true rfl)
  rw [lg_entry_eq]
  generalize (lg_sl ([.int n]) ++ List.replicate (1 - (lg_sl ([.int n])).length) Slot.unset).toArray = ls at hl ⊢
  have hl : lv_has ls 1 [(0, .int n)] := hl
  refine lv_iload_n hx hb d_Heap_number_0 rfl (lv_at hl 0 rfl) ?_
  refine lv_iconst (v := 1) hx hb d_Heap_number_1 (by decide) ?_
  refine lv_ishl hx hb d_Heap_number_2 ?_
  have hP9 := hP.sub (ws' := []) [] rfl
  have hD9 := hD.sub (ws' := []) [] (by decide) rfl
  exact W.iret (v := n <<< (1 &&& 31)) hx hb hr (fun t9 ht hW => ⟨⟨n <<< (1 &&& 31), (), rfl, by unfold hs_number; rfl, by rw [ht]; exact hP9, va_K.moved hW.alike hK, hD9⟩, hS.F ht⟩) hS.2.2 d_Heap_number_3

def ts_part (f : Nat → Int32) (t k : Int32) : Int32 := if ts_exists t = 0 then 0 else if k < 0 then 0 else if 7 ≤ k then 0 else f (t * 7 + k).toNatClampNeg
theorem ts_ex_in {t : Int32} (h : ¬ ts_exists t = 0) : ¬ t < 0 ∧ ¬ 8 ≤ t := by
  unfold ts_exists at h
  by_cases a : t < 0
  · rw [if_pos a] at h; exact absurd rfl h
  · rw [if_neg a] at h
    by_cases b : 8 ≤ t
    · rw [if_pos b] at h; exact absurd rfl h
    · exact ⟨a, b⟩
theorem ts_nat {t : Int32} {n : Nat} (hn : n < 2 ^ 31) (a : ¬ t < 0) (b : ¬ nI n ≤ t) : ∃ j : Nat, j < n ∧ t = nI j := by
  rcases pk_ix t hn with h | h | h
  · exact absurd h a
  · exact absurd h b
  · exact h
theorem ts_part_in {t k : Int32} (h : ¬ ts_exists t = 0) (h1 : ¬ k < 0) (h2 : ¬ 7 ≤ k) : vp_in (t * 7 + k) 56 := by
  obtain ⟨a, b⟩ := ts_ex_in h
  obtain ⟨j, hj, rfl⟩ := ts_nat (n := 8) (by decide) a b
  obtain ⟨i, hi, rfl⟩ := ts_nat (n := 7) (by decide) h1 h2
  rw [show (7 : Int32) = nI 7 from rfl, pk_mul, nI_add]
  exact vp_in_nI (by omega) (by decide)

set_option maxHeartbeats 4000000 in
set_option maxRecDepth 100000 in
/-- a part of a turtle, 0 without one -/
theorem c_Turtles_part (l : Launch) (dC : Nat → ClassId) (dI : Nat → Nat → Nat) (sz : Nat) (h0 : Nat) (a0 : Nat) (a1 : Nat) (a3 : Nat) (a4 : Nat) (a5 : Nat) (a6 : Nat) (cI : ClassId) (told : Int32) (kt : Int32) (f : Nat → Int32) (t : Int32) (k : Int32)  : Met l y_Turtles_part w_Turtles_part ({ frames := 1, cells := 0, slots := 0, locals := 20 }) (va_Pc [.ref h0, .int t, .int k] (fun U => U.heap.size = sz ∧ va_P (dC, dI) classes [(h0, .inr (5, [.ref a0, .ref a1, .int told, .ref a3, .ref a4, .ref a5, .ref a6, .int kt])), (a0, .inl (cI, 56, .inl f))] U.heap ∧ va_K (dC, dI) classes [(cI, .int)] U ∧ va_D (fun _ => True) [(h0, .inr (5, [.ref a0, .ref a1, .int told, .ref a3, .ref a4, .ref a5, .ref a6, .int kt])), (a0, .inl (cI, 56, .inl f))])) (va_Qi (fun (r : Int32) (_ : Unit) => r = ts_part f t k) (fun (_ : Unit) t => va_P (dC, dI) classes [(h0, .inr (5, [.ref a0, .ref a1, .int told, .ref a3, .ref a4, .ref a5, .ref a6, .int kt])), (a0, .inl (cI, 56, .inl f))] t.heap ∧ va_K (dC, dI) classes [(cI, .int)] t ∧ va_D (va_A [(h0, .inr (5, [.ref a0, .ref a1, .int told, .ref a3, .ref a4, .ref a5, .ref a6, .int kt])), (a0, .inl (cI, 56, .inl f))] sz) [(h0, .inr (5, [.ref a0, .ref a1, .int told, .ref a3, .ref a4, .ref a5, .ref a6, .int kt])), (a0, .inl (cI, 56, .inl f))]) (va_A [(h0, .inr (5, [.ref a0, .ref a1, .int told, .ref a3, .ref a4, .ref a5, .ref a6, .int kt])), (a0, .inl (cI, 56, .inl f))] sz)) 0 0 (va_A [(h0, .inr (5, [.ref a0, .ref a1, .int told, .ref a3, .ref a4, .ref a5, .ref a6, .int kt])), (a0, .inl (cI, 56, .inl f))] sz) := by
  refine Met.ofW (cc := b_Turtles_part) (maxL := 3) (ret := (some .int)) (by decide) rfl ?_
  intro p e s m args below meth c s₁ B hml hv
  obtain ⟨rfl, hsz, hP, hK, hD0⟩ := hv
  have hx := B.exec
  have hb := B.bytes
  have hr := B.returns
  have hts := atoms_spec (ws := w_Turtles_part) B.pre
  have htt : ∀ w ∈ tw_T, w.before _ s = true := fun w h => hts w (List.mem_cons_of_mem _ h)
  have hown : s.vm.findClass R_Turtles = some m.cls := findClass_of_methodNamed B.named
  have hlocks := B.notSynchronized
  subst hsz
  have hD := hD0.self (sz := s.heap.size)
  generalize hAe : va_A [(h0, .inr (5, [.ref a0, .ref a1, .int told, .ref a3, .ref a4, .ref a5, .ref a6, .int kt])), (a0, .inl (cI, 56, .inl f))] s.heap.size = A at hD ⊢
  have hA : ∀ q : Nat, s.heap.size ≤ q → A q := fun q h => by rw [← hAe]; exact Or.inr h
  have hS : va_S A s.heap s.heap [] := va_S.rf
  have hP : va_P (dC, dI) classes [(h0, .inr (5, [.ref a0, .ref a1, .int told, .ref a3, .ref a4, .ref a5, .ref a6, .int kt])), (a0, .inl (cI, 56, .inl f))] s.heap := hP
  have hl := lv_entry ([.ref h0, .int t, .int k]) (n := 3) (Nat.le_of_ble_eq_true rfl)
  rw [lg_entry_eq]
  generalize (lg_sl ([.ref h0, .int t, .int k]) ++ List.replicate (3 - (lg_sl ([.ref h0, .int t, .int k])).length) Slot.unset).toArray = ls at hl ⊢
  have hl : lv_has ls 3 [(0, .ref h0), (1, .int t), (2, .int k)] := hl
  refine lv_iload_n hx hb d_Turtles_part_0 rfl (lv_at hl 1 rfl) ?_
  have hPc := hP.sub (ws' := []) [] rfl
  have hDc := hD.sub (ws' := []) [] (by decide) rfl
  have hKc := hK.sub (tys' := []) [] rfl
  have hFc := va_free (wc := []) hD hS hA [] rfl
  refine va_calli (va_runS (As := [.int t]) (rest := []) ⟨hx, hb, hml, hown, hts⟩ (c_Turtles_exists l dC dI s.heap.size t) (va_cwS 1 hts (tw_GS tw_cons cw_Turtles_exists lk_Turtles_30 st_Turtles_exists ini_Turtles) rfl rfl rfl (by decide +kernel) ⟨Nat.le_of_ble_eq_true rfl, Nat.le_of_ble_eq_true rfl⟩) ⟨fun a U g mk q => by obtain ⟨q0, q1, qP, qK, qD⟩ := q; exact ⟨q0, q1, qP, va_K.moved (u := U) (U := U.calling g mk a) (Vm.Alike.refl U.vm) qK, qD⟩, fun U hU hW => ⟨rfl, by rw [hU], by rw [hU]; exact hPc, va_K.moved hW.alike hKc, hDc.weaken (fun _ _ _ _ => trivial)⟩⟩ rfl rfl hl.1 rfl (lv_room (Nat.le_of_ble_eq_true rfl)) d_Turtles_part_1 ⟨Nat.le_of_ble_eq_true rfl, Nat.le_of_ble_eq_true rfl⟩) hS (fun q _ h => hFc q h) hFc (fun r9 u9 t9 H1 locs ht hvm e9 hB hz1 hk1 hS => ?_)
  obtain ⟨hP1, hK1, hD1⟩ := hB
  rw [ht] at hP1
  obtain ⟨hP, hD⟩ := va_join (wr := [(h0, .inr (5, [.ref a0, .ref a1, .int told, .ref a3, .ref a4, .ref a5, .ref a6, .int kt])), (a0, .inl (cI, 56, .inl f))]) (w1 := []) hP hD [] [0, 1] rfl rfl (by decide) (by decide) hk1 hFc hP1 hD1
  subst e9
  clear hP1 hD1 hK1 hvm hz1 hk1 hFc hKc hDc hPc
  subst ht
  generalize t9.heap = H at hP hS ⊢
  have hP : va_P (dC, dI) classes [(h0, .inr (5, [.ref a0, .ref a1, .int told, .ref a3, .ref a4, .ref a5, .ref a6, .int kt])), (a0, .inl (cI, 56, .inl f))] H := hP
  have hD : va_D A [(h0, .inr (5, [.ref a0, .ref a1, .int told, .ref a3, .ref a4, .ref a5, .ref a6, .int kt])), (a0, .inl (cI, 56, .inl f))] := hD
  refine lv_if_eq (tgt := 31) hx hb d_Turtles_part_4 (by decide) (fun c_1 => ?_) (fun c_1 => ?_)
  · refine lv_iconst (v := 0) hx hb d_Turtles_part_31 (by decide) ?_
    have hP9 := hP.sub (ws' := [(h0, .inr (5, [.ref a0, .ref a1, .int told, .ref a3, .ref a4, .ref a5, .ref a6, .int kt])), (a0, .inl (cI, 56, .inl f))]) [0, 1] rfl
    have hD9 := hD.sub (ws' := [(h0, .inr (5, [.ref a0, .ref a1, .int told, .ref a3, .ref a4, .ref a5, .ref a6, .int kt])), (a0, .inl (cI, 56, .inl f))]) [0, 1] (by decide) rfl
    exact W.iret (v := 0) hx hb hr (fun t9 ht hW => ⟨⟨0, (), rfl, by unfold ts_part; rw [if_pos c_1], by rw [ht]; exact hP9, va_K.moved hW.alike hK, hD9⟩, hS.F ht⟩) hS.2.2 d_Turtles_part_32
  · refine lv_iload_n hx hb d_Turtles_part_7 rfl (lv_at hl 2 rfl) ?_
    refine lv_if_lt (tgt := 31) hx hb d_Turtles_part_8 (by decide) (fun c_2 => ?_) (fun c_2 => ?_)
    · refine lv_iconst (v := 0) hx hb d_Turtles_part_31 (by decide) ?_
      have hP9 := hP.sub (ws' := [(h0, .inr (5, [.ref a0, .ref a1, .int told, .ref a3, .ref a4, .ref a5, .ref a6, .int kt])), (a0, .inl (cI, 56, .inl f))]) [0, 1] rfl
      have hD9 := hD.sub (ws' := [(h0, .inr (5, [.ref a0, .ref a1, .int told, .ref a3, .ref a4, .ref a5, .ref a6, .int kt])), (a0, .inl (cI, 56, .inl f))]) [0, 1] (by decide) rfl
      exact W.iret (v := 0) hx hb hr (fun t9 ht hW => ⟨⟨0, (), rfl, by unfold ts_part; rw [if_neg c_1, if_pos c_2], by rw [ht]; exact hP9, va_K.moved hW.alike hK, hD9⟩, hS.F ht⟩) hS.2.2 d_Turtles_part_32
    · refine lv_iload_n hx hb d_Turtles_part_11 rfl (lv_at hl 2 rfl) ?_
      refine lv_bipush (v := 7) hx hb d_Turtles_part_12 (by decide) ?_
      refine lv_icmp_ge (tgt := 31) hx hb d_Turtles_part_14 (by decide) (fun c_3 => ?_) (fun c_3 => ?_)
      · refine lv_iconst (v := 0) hx hb d_Turtles_part_31 (by decide) ?_
        have hP9 := hP.sub (ws' := [(h0, .inr (5, [.ref a0, .ref a1, .int told, .ref a3, .ref a4, .ref a5, .ref a6, .int kt])), (a0, .inl (cI, 56, .inl f))]) [0, 1] rfl
        have hD9 := hD.sub (ws' := [(h0, .inr (5, [.ref a0, .ref a1, .int told, .ref a3, .ref a4, .ref a5, .ref a6, .int kt])), (a0, .inl (cI, 56, .inl f))]) [0, 1] (by decide) rfl
        exact W.iret (v := 0) hx hb hr (fun t9 ht hW => ⟨⟨0, (), rfl, by unfold ts_part; rw [if_neg c_1, if_neg c_2, if_pos c_3], by rw [ht]; exact hP9, va_K.moved hW.alike hK, hD9⟩, hS.F ht⟩) hS.2.2 d_Turtles_part_32
      · refine lv_aload_n hx hb d_Turtles_part_17 rfl (lv_at hl 0 rfl) ?_
        refine va_get (D := (dC, dI)) (ci := 5) (v := .ref a0) (C := R_Turtles) (T := F_Turtles) (N := 8) hx hb htt iw_Turtles hown hK hP 0 rfl rfl 0 (by decide) (htt _ lk_Turtles_11) (fun _ h9 => h9) rfl d_Turtles_part_18 ?_
        refine lv_iload_n hx hb d_Turtles_part_21 rfl (lv_at hl 1 rfl) ?_
        refine lv_bipush (v := 7) hx hb d_Turtles_part_22 (by decide) ?_
        refine lv_imul hx hb d_Turtles_part_24 ?_
        refine lv_iload_n hx hb d_Turtles_part_25 rfl (lv_at hl 2 rfl) ?_
        refine lv_iadd hx hb d_Turtles_part_26 ?_
        have h_4 : vp_in ((t * 7) + k) 56 := ts_part_in c_1 c_2 c_3
        refine va_iald hx hb hK hP 1 0 rfl rfl h_4 d_Turtles_part_27 ?_
        refine lv_goto (tgt := 32) hx hb d_Turtles_part_28 (by decide) ?_
        have hP9 := hP.sub (ws' := [(h0, .inr (5, [.ref a0, .ref a1, .int told, .ref a3, .ref a4, .ref a5, .ref a6, .int kt])), (a0, .inl (cI, 56, .inl f))]) [0, 1] rfl
        have hD9 := hD.sub (ws' := [(h0, .inr (5, [.ref a0, .ref a1, .int told, .ref a3, .ref a4, .ref a5, .ref a6, .int kt])), (a0, .inl (cI, 56, .inl f))]) [0, 1] (by decide) rfl
        exact W.iret (v := f ((t * 7) + k).toNatClampNeg) hx hb hr (fun t9 ht hW => ⟨⟨f ((t * 7) + k).toNatClampNeg, (), rfl, by unfold ts_part; rw [if_neg c_1, if_neg c_2, if_neg c_3], by rw [ht]; exact hP9, va_K.moved hW.alike hK, hD9⟩, hS.F ht⟩) hS.2.2 d_Turtles_part_32
