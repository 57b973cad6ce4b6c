def R_Math : String := "java/lang/Math"
def R_Long : String := "java/lang/Long"
def R_Arrays : String := "java/util/Arrays"
abbrev b_Math_max : ByteArray := prog_18_method_65_code
def y_Math_max : MethodName := ⟨R_Math, "max", "(II)I"⟩
abbrev w_Math_max : List Cond := .code y_Math_max b_Math_max 2 (some .int) :: tw_T
set_option maxRecDepth 100000 in
theorem cw_Math_max : Cond.code y_Math_max b_Math_max 2 (some .int) ∈ tw_T := tw_i1 112 rfl rfl
abbrev b_Math_min : ByteArray := prog_18_method_69_code
def y_Math_min : MethodName := ⟨R_Math, "min", "(II)I"⟩
abbrev w_Math_min : List Cond := .code y_Math_min b_Math_min 2 (some .int) :: tw_T
set_option maxRecDepth 100000 in
theorem cw_Math_min : Cond.code y_Math_min b_Math_min 2 (some .int) ∈ tw_T := tw_i1 169 rfl rfl
abbrev b_Math_floorMod : ByteArray := prog_18_method_50_code
def y_Math_floorMod : MethodName := ⟨R_Math, "floorMod", "(II)I"⟩
abbrev w_Math_floorMod : List Cond := .code y_Math_floorMod b_Math_floorMod 3 (some .int) :: tw_T
set_option maxRecDepth 100000 in
theorem cw_Math_floorMod : Cond.code y_Math_floorMod b_Math_floorMod 3 (some .int) ∈ tw_T := tw_i6 22 rfl rfl
abbrev b_Math_floorDiv : ByteArray := prog_18_method_49_code
def y_Math_floorDiv : MethodName := ⟨R_Math, "floorDiv", "(JJ)J"⟩
abbrev w_Math_floorDiv : List Cond := .code y_Math_floorDiv b_Math_floorDiv 6 (some .long) :: tw_T
set_option maxRecDepth 100000 in
theorem cw_Math_floorDiv : Cond.code y_Math_floorDiv b_Math_floorDiv 6 (some .long) ∈ tw_T := tw_i6 44 rfl rfl
abbrev b_Math_max2 : ByteArray := prog_18_method_66_code
def y_Math_max2 : MethodName := ⟨R_Math, "max", "(JJ)J"⟩
abbrev w_Math_max2 : List Cond := .code y_Math_max2 b_Math_max2 4 (some .long) :: tw_T
set_option maxRecDepth 100000 in
theorem cw_Math_max2 : Cond.code y_Math_max2 b_Math_max2 4 (some .long) ∈ tw_T := tw_i6 48 rfl rfl
abbrev b_Math_min2 : ByteArray := prog_18_method_70_code
def y_Math_min2 : MethodName := ⟨R_Math, "min", "(JJ)J"⟩
abbrev w_Math_min2 : List Cond := .code y_Math_min2 b_Math_min2 4 (some .long) :: tw_T
set_option maxRecDepth 100000 in
theorem cw_Math_min2 : Cond.code y_Math_min2 b_Math_min2 4 (some .long) ∈ tw_T := tw_i4 93 rfl rfl
abbrev b_Long_compare : ByteArray := prog_17_method_42_code
def y_Long_compare : MethodName := ⟨R_Long, "compare", "(JJ)I"⟩
abbrev w_Long_compare : List Cond := .code y_Long_compare b_Long_compare 4 (some .int) :: tw_T
set_option maxRecDepth 100000 in
theorem cw_Long_compare : Cond.code y_Long_compare b_Long_compare 4 (some .int) ∈ tw_T := tw_i6 56 rfl rfl
abbrev b_Math_abs : ByteArray := prog_18_method_59_code
def y_Math_abs : MethodName := ⟨R_Math, "abs", "(I)I"⟩
abbrev w_Math_abs : List Cond := .code y_Math_abs b_Math_abs 1 (some .int) :: tw_T
set_option maxRecDepth 100000 in
theorem cw_Math_abs : Cond.code y_Math_abs b_Math_abs 1 (some .int) ∈ tw_T := tw_i11 101 rfl rfl
abbrev b_Arrays_fill : ByteArray := prog_25_method_103_code
def y_Arrays_fill : MethodName := ⟨R_Arrays, "fill", "([II)V"⟩
abbrev w_Arrays_fill : List Cond := .code y_Arrays_fill b_Arrays_fill 4 none :: tw_T
set_option maxRecDepth 100000 in
theorem cw_Arrays_fill : Cond.code y_Arrays_fill b_Arrays_fill 4 none ∈ tw_T := tw_i6 109 rfl rfl
theorem d_Math_max_0 : decode b_Math_max 0 = .ok (.iload_n 0, 1) := by decide +kernel
theorem d_Math_max_1 : decode b_Math_max 1 = .ok (.iload_n 1, 1) := by decide +kernel
theorem d_Math_max_2 : decode b_Math_max 2 = .ok (.if_icmp .lt 7, 3) := by decide +kernel
theorem d_Math_max_5 : decode b_Math_max 5 = .ok (.iload_n 0, 1) := by decide +kernel
theorem d_Math_max_6 : decode b_Math_max 6 = .ok (.goto 4, 3) := by decide +kernel
theorem d_Math_max_9 : decode b_Math_max 9 = .ok (.iload_n 1, 1) := by decide +kernel
theorem d_Math_max_10 : decode b_Math_max 10 = .ok (.ireturn, 1) := by decide +kernel
theorem d_Math_min_0 : decode b_Math_min 0 = .ok (.iload_n 0, 1) := by decide +kernel
theorem d_Math_min_1 : decode b_Math_min 1 = .ok (.iload_n 1, 1) := by decide +kernel
theorem d_Math_min_2 : decode b_Math_min 2 = .ok (.if_icmp .gt 7, 3) := by decide +kernel
theorem d_Math_min_5 : decode b_Math_min 5 = .ok (.iload_n 0, 1) := by decide +kernel
theorem d_Math_min_6 : decode b_Math_min 6 = .ok (.goto 4, 3) := by decide +kernel
theorem d_Math_min_9 : decode b_Math_min 9 = .ok (.iload_n 1, 1) := by decide +kernel
theorem d_Math_min_10 : decode b_Math_min 10 = .ok (.ireturn, 1) := by decide +kernel
theorem d_Math_max2_0 : decode b_Math_max2 0 = .ok (.lload_n 0, 1) := by decide +kernel
theorem d_Math_max2_1 : decode b_Math_max2 1 = .ok (.lload_n 2, 1) := by decide +kernel
theorem d_Math_max2_2 : decode b_Math_max2 2 = .ok (.lcmp, 1) := by decide +kernel
theorem d_Math_max2_3 : decode b_Math_max2 3 = .ok (.ifCond .lt 7, 3) := by decide +kernel
theorem d_Math_max2_6 : decode b_Math_max2 6 = .ok (.lload_n 0, 1) := by decide +kernel
theorem d_Math_max2_7 : decode b_Math_max2 7 = .ok (.goto 4, 3) := by decide +kernel
theorem d_Math_max2_10 : decode b_Math_max2 10 = .ok (.lload_n 2, 1) := by decide +kernel
theorem d_Math_max2_11 : decode b_Math_max2 11 = .ok (.lreturn, 1) := by decide +kernel
theorem d_Math_min2_0 : decode b_Math_min2 0 = .ok (.lload_n 0, 1) := by decide +kernel
theorem d_Math_min2_1 : decode b_Math_min2 1 = .ok (.lload_n 2, 1) := by decide +kernel
theorem d_Math_min2_2 : decode b_Math_min2 2 = .ok (.lcmp, 1) := by decide +kernel
theorem d_Math_min2_3 : decode b_Math_min2 3 = .ok (.ifCond .gt 7, 3) := by decide +kernel
theorem d_Math_min2_6 : decode b_Math_min2 6 = .ok (.lload_n 0, 1) := by decide +kernel
theorem d_Math_min2_7 : decode b_Math_min2 7 = .ok (.goto 4, 3) := by decide +kernel
theorem d_Math_min2_10 : decode b_Math_min2 10 = .ok (.lload_n 2, 1) := by decide +kernel
theorem d_Math_min2_11 : decode b_Math_min2 11 = .ok (.lreturn, 1) := by decide +kernel
theorem d_Long_compare_0 : decode b_Long_compare 0 = .ok (.lload_n 0, 1) := by decide +kernel
theorem d_Long_compare_1 : decode b_Long_compare 1 = .ok (.lload_n 2, 1) := by decide +kernel
theorem d_Long_compare_2 : decode b_Long_compare 2 = .ok (.lcmp, 1) := by decide +kernel
theorem d_Long_compare_3 : decode b_Long_compare 3 = .ok (.ifCond .ge 7, 3) := by decide +kernel
theorem d_Long_compare_6 : decode b_Long_compare 6 = .ok (.iconst (-1), 1) := by decide +kernel
theorem d_Long_compare_7 : decode b_Long_compare 7 = .ok (.goto 14, 3) := by decide +kernel
theorem d_Long_compare_10 : decode b_Long_compare 10 = .ok (.lload_n 0, 1) := by decide +kernel
theorem d_Long_compare_11 : decode b_Long_compare 11 = .ok (.lload_n 2, 1) := by decide +kernel
theorem d_Long_compare_12 : decode b_Long_compare 12 = .ok (.lcmp, 1) := by decide +kernel
theorem d_Long_compare_13 : decode b_Long_compare 13 = .ok (.ifCond .ne 7, 3) := by decide +kernel
theorem d_Long_compare_16 : decode b_Long_compare 16 = .ok (.iconst 0, 1) := by decide +kernel
theorem d_Long_compare_17 : decode b_Long_compare 17 = .ok (.goto 4, 3) := by decide +kernel
theorem d_Long_compare_20 : decode b_Long_compare 20 = .ok (.iconst 1, 1) := by decide +kernel
theorem d_Long_compare_21 : decode b_Long_compare 21 = .ok (.ireturn, 1) := by decide +kernel
theorem d_Math_abs_0 : decode b_Math_abs 0 = .ok (.iload_n 0, 1) := by decide +kernel
theorem d_Math_abs_1 : decode b_Math_abs 1 = .ok (.ifCond .ge 8, 3) := by decide +kernel
theorem d_Math_abs_4 : decode b_Math_abs 4 = .ok (.iload_n 0, 1) := by decide +kernel
theorem d_Math_abs_5 : decode b_Math_abs 5 = .ok (.ineg, 1) := by decide +kernel
theorem d_Math_abs_6 : decode b_Math_abs 6 = .ok (.goto 4, 3) := by decide +kernel
theorem d_Math_abs_9 : decode b_Math_abs 9 = .ok (.iload_n 0, 1) := by decide +kernel
theorem d_Math_abs_10 : decode b_Math_abs 10 = .ok (.ireturn, 1) := by decide +kernel
theorem d_Math_floorMod_0 : decode b_Math_floorMod 0 = .ok (.iload_n 0, 1) := by decide +kernel
theorem d_Math_floorMod_1 : decode b_Math_floorMod 1 = .ok (.iload_n 1, 1) := by decide +kernel
theorem d_Math_floorMod_2 : decode b_Math_floorMod 2 = .ok (.irem, 1) := by decide +kernel
theorem d_Math_floorMod_3 : decode b_Math_floorMod 3 = .ok (.istore_n 2, 1) := by decide +kernel
theorem d_Math_floorMod_4 : decode b_Math_floorMod 4 = .ok (.iload_n 0, 1) := by decide +kernel
theorem d_Math_floorMod_5 : decode b_Math_floorMod 5 = .ok (.iload_n 1, 1) := by decide +kernel
theorem d_Math_floorMod_6 : decode b_Math_floorMod 6 = .ok (.ixor, 1) := by decide +kernel
theorem d_Math_floorMod_7 : decode b_Math_floorMod 7 = .ok (.ifCond .ge 11, 3) := by decide +kernel
theorem d_Math_floorMod_10 : decode b_Math_floorMod 10 = .ok (.iload_n 2, 1) := by decide +kernel
theorem d_Math_floorMod_11 : decode b_Math_floorMod 11 = .ok (.ifCond .eq 7, 3) := by decide +kernel
theorem d_Math_floorMod_14 : decode b_Math_floorMod 14 = .ok (.iload_n 2, 1) := by decide +kernel
theorem d_Math_floorMod_15 : decode b_Math_floorMod 15 = .ok (.iload_n 1, 1) := by decide +kernel
theorem d_Math_floorMod_16 : decode b_Math_floorMod 16 = .ok (.iadd, 1) := by decide +kernel
theorem d_Math_floorMod_17 : decode b_Math_floorMod 17 = .ok (.ireturn, 1) := by decide +kernel
theorem d_Math_floorMod_18 : decode b_Math_floorMod 18 = .ok (.iload_n 2, 1) := by decide +kernel
theorem d_Math_floorMod_19 : decode b_Math_floorMod 19 = .ok (.ireturn, 1) := by decide +kernel
theorem d_Math_floorDiv_0 : decode b_Math_floorDiv 0 = .ok (.lload_n 0, 1) := by decide +kernel
theorem d_Math_floorDiv_1 : decode b_Math_floorDiv 1 = .ok (.lload_n 2, 1) := by decide +kernel
theorem d_Math_floorDiv_2 : decode b_Math_floorDiv 2 = .ok (.ldiv, 1) := by decide +kernel
theorem d_Math_floorDiv_3 : decode b_Math_floorDiv 3 = .ok (.lstore 4, 2) := by decide +kernel
theorem d_Math_floorDiv_5 : decode b_Math_floorDiv 5 = .ok (.lload_n 0, 1) := by decide +kernel
theorem d_Math_floorDiv_6 : decode b_Math_floorDiv 6 = .ok (.lload_n 2, 1) := by decide +kernel
theorem d_Math_floorDiv_7 : decode b_Math_floorDiv 7 = .ok (.lxor, 1) := by decide +kernel
theorem d_Math_floorDiv_8 : decode b_Math_floorDiv 8 = .ok (.lconst 0, 1) := by decide +kernel
theorem d_Math_floorDiv_9 : decode b_Math_floorDiv 9 = .ok (.lcmp, 1) := by decide +kernel
theorem d_Math_floorDiv_10 : decode b_Math_floorDiv 10 = .ok (.ifCond .ge 17, 3) := by decide +kernel
theorem d_Math_floorDiv_13 : decode b_Math_floorDiv 13 = .ok (.lload 4, 2) := by decide +kernel
theorem d_Math_floorDiv_15 : decode b_Math_floorDiv 15 = .ok (.lload_n 2, 1) := by decide +kernel
theorem d_Math_floorDiv_16 : decode b_Math_floorDiv 16 = .ok (.lmul, 1) := by decide +kernel
theorem d_Math_floorDiv_17 : decode b_Math_floorDiv 17 = .ok (.lload_n 0, 1) := by decide +kernel
theorem d_Math_floorDiv_18 : decode b_Math_floorDiv 18 = .ok (.lcmp, 1) := by decide +kernel
theorem d_Math_floorDiv_19 : decode b_Math_floorDiv 19 = .ok (.ifCond .eq 8, 3) := by decide +kernel
theorem d_Math_floorDiv_22 : decode b_Math_floorDiv 22 = .ok (.lload 4, 2) := by decide +kernel
theorem d_Math_floorDiv_24 : decode b_Math_floorDiv 24 = .ok (.lconst 1, 1) := by decide +kernel
theorem d_Math_floorDiv_25 : decode b_Math_floorDiv 25 = .ok (.lsub, 1) := by decide +kernel
theorem d_Math_floorDiv_26 : decode b_Math_floorDiv 26 = .ok (.lreturn, 1) := by decide +kernel
theorem d_Math_floorDiv_27 : decode b_Math_floorDiv 27 = .ok (.lload 4, 2) := by decide +kernel
theorem d_Math_floorDiv_29 : decode b_Math_floorDiv 29 = .ok (.lreturn, 1) := by decide +kernel
theorem d_Arrays_fill_0 : decode b_Arrays_fill 0 = .ok (.iconst 0, 1) := by decide +kernel
theorem d_Arrays_fill_1 : decode b_Arrays_fill 1 = .ok (.istore_n 2, 1) := by decide +kernel
theorem d_Arrays_fill_2 : decode b_Arrays_fill 2 = .ok (.aload_n 0, 1) := by decide +kernel
theorem d_Arrays_fill_3 : decode b_Arrays_fill 3 = .ok (.arraylength, 1) := by decide +kernel
theorem d_Arrays_fill_4 : decode b_Arrays_fill 4 = .ok (.istore_n 3, 1) := by decide +kernel
theorem d_Arrays_fill_5 : decode b_Arrays_fill 5 = .ok (.iload_n 2, 1) := by decide +kernel
theorem d_Arrays_fill_6 : decode b_Arrays_fill 6 = .ok (.iload_n 3, 1) := by decide +kernel
theorem d_Arrays_fill_7 : decode b_Arrays_fill 7 = .ok (.if_icmp .ge 13, 3) := by decide +kernel
theorem d_Arrays_fill_10 : decode b_Arrays_fill 10 = .ok (.aload_n 0, 1) := by decide +kernel
theorem d_Arrays_fill_11 : decode b_Arrays_fill 11 = .ok (.iload_n 2, 1) := by decide +kernel
theorem d_Arrays_fill_12 : decode b_Arrays_fill 12 = .ok (.iload_n 1, 1) := by decide +kernel
theorem d_Arrays_fill_13 : decode b_Arrays_fill 13 = .ok (.iastore, 1) := by decide +kernel
theorem d_Arrays_fill_14 : decode b_Arrays_fill 14 = .ok (.iinc 2 1, 3) := by decide +kernel
theorem d_Arrays_fill_17 : decode b_Arrays_fill 17 = .ok (.goto (-12), 3) := by decide +kernel
theorem d_Arrays_fill_20 : decode b_Arrays_fill 20 = .ok (.return_, 1) := by decide +kernel
/-- a contract out of a walk, of a method that no entry of the natives takes the place of, whatever its class -/
theorem mt_ofW {l : Launch} {y : MethodName} {ws ws' : List Cond} {rm : Room} {Pc : Array Value → State → Prop} {Qc : Array Value → State → Outcome → State → Prop} {mc ms : Nat} {free : Addr → Prop} {cc : ByteArray} {maxL : Nat} {ret : Option FieldType}
    (hy : plainFor y = true) (hw : ws = Cond.code y cc maxL ret :: ws')
    (body : ∀ p e s m args below meth c s₁, BodyLoose p l y (headSpec ws rm) cc maxL ret e s m args below meth c s₁ → c.maxLocals = maxL → Pc args s →
      W p l e (headSpec ws rm).room s m args below meth c s.heap [] 0 0 (MQ below Qc args s mc ms free) (entryFrame m args maxL)) : Met l y ws rm Pc Qc mc ms free := by
  refine MetFree.of_bodySF (code := cc) (maxLocals := maxL) (ret := ret) hy ?_ ?_
  · intro args s m h hn
    obtain ⟨meth, c, h1, h2, h3, h4, h5, h6, -, -⟩ := Cond.code_spec hn (atoms_spec (ws := ws) h _ (by rw [hw]; exact List.mem_cons_self))
    exact ⟨meth, c, h1, h2, h3, h4, h5, h6⟩
  · intro p e s m args below meth c s₁ B hml hP _
    have hh0 : s₁.heap = s.heap := by rw [B.state]; rfl
    obtain ⟨t, a1, o, b1, b2, b3⟩ := body p e s m args below meth c s₁ B hml hP s₁ hh0 (Stand.of_body B)
    exact ⟨t, o, a1, b1, b2, ⟨b3.1, b3.2⟩⟩

def m_Math_max_r (x : Int32) (y : Int32) : Int32 := if x < y then y else x
set_option maxHeartbeats 4000000 in
set_option maxRecDepth 100000 in
theorem c_Math_max (l : Launch) (dC : Nat → ClassId) (dI : Nat → Nat → Nat) (sz : Nat) (x : Int32) (y : Int32)  : Met l y_Math_max w_Math_max ({ frames := 0, cells := 0, slots := 0, locals := 0 }) (va_Pc [.int x, .int y] (fun U => U.heap.size = sz ∧ va_P (dC, dI) classes ([] : va_W) U.heap ∧ va_K (dC, dI) classes [] U ∧ va_D (fun _ => True) ([] : va_W))) (va_Qi (fun (r : Int32) (_ : Unit) => r = m_Math_max_r x y) (fun (_ : Unit) t => va_P (dC, dI) classes ([] : va_W) t.heap ∧ va_K (dC, dI) classes [] t ∧ va_D (va_A ([] : va_W) sz) ([] : va_W)) (va_A ([] : va_W) sz)) 0 0 (va_A ([] : va_W) sz) := by
  refine mt_ofW (cc := b_Math_max) (maxL := 2) (ret := (some .int)) (by decide +kernel) rfl ?_
  intro p e s m args below meth c s₁ B hml hv
  obtain ⟨rfl, hsz, hP, hK, hD0⟩ := hv
  have hx := B.exec
  have hb := B.bytes
  have hr := B.returns
  have hts := atoms_spec (ws := w_Math_max) B.pre
  have htt : ∀ w ∈ tw_T, w.before _ s = true := fun w h => hts w (List.mem_cons_of_mem _ h)
  have hown : s.vm.findClass R_Math = some m.cls := findClass_of_methodNamed B.named
  have hlocks := B.notSynchronized
  subst hsz
  have hD := hD0.self (sz := s.heap.size)
  generalize hAe : va_A ([] : va_W) s.heap.size = A at hD ⊢
  have hA : ∀ q : Nat, s.heap.size ≤ q → A q := fun q h => by rw [← hAe]; exact Or.inr h
  have hS : va_S A s.heap s.heap [] := va_S.rf
  have hP : va_P (dC, dI) classes ([] : va_W) s.heap := hP
  have hl := lv_entry ([.int x, .int y]) (n := 2) (Nat.le_of_ble_eq_true rfl)
  rw [lg_entry_eq]
  generalize (lg_sl ([.int x, .int y]) ++ List.replicate (2 - (lg_sl ([.int x, .int y])).length) Slot.unset).toArray = ls at hl ⊢
  have hl : lv_has ls 2 [(0, .int x), (1, .int y)] := hl
  refine lv_iload_n hx hb d_Math_max_0 rfl (lv_at hl 0 rfl) ?_
  refine lv_iload_n hx hb d_Math_max_1 rfl (lv_at hl 1 rfl) ?_
  refine lv_icmp_lt (tgt := 9) hx hb d_Math_max_2 (by decide) (fun c_1 => ?_) (fun c_1 => ?_)
  · refine lv_iload_n hx hb d_Math_max_9 rfl (lv_at hl 1 rfl) ?_
    have hP9 := hP.sub (ws' := []) [] rfl
    have hD9 := hD.sub (ws' := []) [] (by decide) rfl
    exact W.iret (v := y) hx hb hr (fun t9 ht hW => ⟨⟨y, (), rfl, by unfold m_Math_max_r; simp only [if_pos c_1], by rw [ht]; exact hP9, va_K.moved hW.alike hK, hD9⟩, hS.F ht⟩) hS.2.2 d_Math_max_10
  · refine lv_iload_n hx hb d_Math_max_5 rfl (lv_at hl 0 rfl) ?_
    refine lv_goto (tgt := 10) hx hb d_Math_max_6 (by decide) ?_
    have hP9 := hP.sub (ws' := []) [] rfl
    have hD9 := hD.sub (ws' := []) [] (by decide) rfl
    exact W.iret (v := x) hx hb hr (fun t9 ht hW => ⟨⟨x, (), rfl, by unfold m_Math_max_r; simp only [if_neg c_1], by rw [ht]; exact hP9, va_K.moved hW.alike hK, hD9⟩, hS.F ht⟩) hS.2.2 d_Math_max_10

def m_Math_min_r (x : Int32) (y : Int32) : Int32 := if y < x then y else x
set_option maxHeartbeats 4000000 in
set_option maxRecDepth 100000 in
theorem c_Math_min (l : Launch) (dC : Nat → ClassId) (dI : Nat → Nat → Nat) (sz : Nat) (x : Int32) (y : Int32)  : Met l y_Math_min w_Math_min ({ frames := 0, cells := 0, slots := 0, locals := 0 }) (va_Pc [.int x, .int y] (fun U => U.heap.size = sz ∧ va_P (dC, dI) classes ([] : va_W) U.heap ∧ va_K (dC, dI) classes [] U ∧ va_D (fun _ => True) ([] : va_W))) (va_Qi (fun (r : Int32) (_ : Unit) => r = m_Math_min_r x y) (fun (_ : Unit) t => va_P (dC, dI) classes ([] : va_W) t.heap ∧ va_K (dC, dI) classes [] t ∧ va_D (va_A ([] : va_W) sz) ([] : va_W)) (va_A ([] : va_W) sz)) 0 0 (va_A ([] : va_W) sz) := by
  refine mt_ofW (cc := b_Math_min) (maxL := 2) (ret := (some .int)) (by decide +kernel) rfl ?_
  intro p e s m args below meth c s₁ B hml hv
  obtain ⟨rfl, hsz, hP, hK, hD0⟩ := hv
  have hx := B.exec
  have hb := B.bytes
  have hr := B.returns
  have hts := atoms_spec (ws := w_Math_min) B.pre
  have htt : ∀ w ∈ tw_T, w.before _ s = true := fun w h => hts w (List.mem_cons_of_mem _ h)
  have hown : s.vm.findClass R_Math = some m.cls := findClass_of_methodNamed B.named
  have hlocks := B.notSynchronized
  subst hsz
  have hD := hD0.self (sz := s.heap.size)
  generalize hAe : va_A ([] : va_W) s.heap.size = A at hD ⊢
  have hA : ∀ q : Nat, s.heap.size ≤ q → A q := fun q h => by rw [← hAe]; exact Or.inr h
  have hS : va_S A s.heap s.heap [] := va_S.rf
  have hP : va_P (dC, dI) classes ([] : va_W) s.heap := hP
  have hl := lv_entry ([.int x, .int y]) (n := 2) (Nat.le_of_ble_eq_true rfl)
  rw [lg_entry_eq]
  generalize (lg_sl ([.int x, .int y]) ++ List.replicate (2 - (lg_sl ([.int x, .int y])).length) Slot.unset).toArray = ls at hl ⊢
  have hl : lv_has ls 2 [(0, .int x), (1, .int y)] := hl
  refine lv_iload_n hx hb d_Math_min_0 rfl (lv_at hl 0 rfl) ?_
  refine lv_iload_n hx hb d_Math_min_1 rfl (lv_at hl 1 rfl) ?_
  refine lv_icmp_gt (tgt := 9) hx hb d_Math_min_2 (by decide) (fun c_1 => ?_) (fun c_1 => ?_)
  · refine lv_iload_n hx hb d_Math_min_9 rfl (lv_at hl 1 rfl) ?_
    have hP9 := hP.sub (ws' := []) [] rfl
    have hD9 := hD.sub (ws' := []) [] (by decide) rfl
    exact W.iret (v := y) hx hb hr (fun t9 ht hW => ⟨⟨y, (), rfl, by unfold m_Math_min_r; simp only [if_pos c_1], by rw [ht]; exact hP9, va_K.moved hW.alike hK, hD9⟩, hS.F ht⟩) hS.2.2 d_Math_min_10
  · refine lv_iload_n hx hb d_Math_min_5 rfl (lv_at hl 0 rfl) ?_
    refine lv_goto (tgt := 10) hx hb d_Math_min_6 (by decide) ?_
    have hP9 := hP.sub (ws' := []) [] rfl
    have hD9 := hD.sub (ws' := []) [] (by decide) rfl
    exact W.iret (v := x) hx hb hr (fun t9 ht hW => ⟨⟨x, (), rfl, by unfold m_Math_min_r; simp only [if_neg c_1], by rw [ht]; exact hP9, va_K.moved hW.alike hK, hD9⟩, hS.F ht⟩) hS.2.2 d_Math_min_10

def m_Math_max2_r (x : Int64) (y : Int64) : Int64 := if ((lg_cmp x y)) < ((0 : Int32)) then y else x
set_option maxHeartbeats 4000000 in
set_option maxRecDepth 100000 in
theorem c_Math_max2 (l : Launch) (dC : Nat → ClassId) (dI : Nat → Nat → Nat) (sz : Nat) (x : Int64) (y : Int64)  : Met l y_Math_max2 w_Math_max2 ({ frames := 0, cells := 0, slots := 0, locals := 0 }) (va_Pc [.long x, .long y] (fun U => U.heap.size = sz ∧ va_P (dC, dI) classes ([] : va_W) U.heap ∧ va_K (dC, dI) classes [] U ∧ va_D (fun _ => True) ([] : va_W))) (va_Ql (fun (r : Int64) (_ : Unit) => r = m_Math_max2_r x y) (fun (_ : Unit) t => va_P (dC, dI) classes ([] : va_W) t.heap ∧ va_K (dC, dI) classes [] t ∧ va_D (va_A ([] : va_W) sz) ([] : va_W)) (va_A ([] : va_W) sz)) 0 0 (va_A ([] : va_W) sz) := by
  refine mt_ofW (cc := b_Math_max2) (maxL := 4) (ret := (some .long)) (by decide +kernel) rfl ?_
  intro p e s m args below meth c s₁ B hml hv
  obtain ⟨rfl, hsz, hP, hK, hD0⟩ := hv
  have hx := B.exec
  have hb := B.bytes
  have hr := B.returns
  have hts := atoms_spec (ws := w_Math_max2) B.pre
  have htt : ∀ w ∈ tw_T, w.before _ s = true := fun w h => hts w (List.mem_cons_of_mem _ h)
  have hown : s.vm.findClass R_Math = some m.cls := findClass_of_methodNamed B.named
  have hlocks := B.notSynchronized
  subst hsz
  have hD := hD0.self (sz := s.heap.size)
  generalize hAe : va_A ([] : va_W) s.heap.size = A at hD ⊢
  have hA : ∀ q : Nat, s.heap.size ≤ q → A q := fun q h => by rw [← hAe]; exact Or.inr h
  have hS : va_S A s.heap s.heap [] := va_S.rf
  have hP : va_P (dC, dI) classes ([] : va_W) s.heap := hP
  have hl := lv_entry ([.long x, .long y]) (n := 4) (Nat.le_of_ble_eq_true rfl)
  rw [lg_entry_eq]
  generalize (lg_sl ([.long x, .long y]) ++ List.replicate (4 - (lg_sl ([.long x, .long y])).length) Slot.unset).toArray = ls at hl ⊢
  have hl : lv_has ls 4 [(0, .long x), (2, .long y)] := hl
  refine lv_lload_n hx hb d_Math_max2_0 rfl (lv_at hl 0 rfl) ?_
  refine lv_lload_n hx hb d_Math_max2_1 rfl (lv_at hl 1 rfl) ?_
  refine W.lcmp hx hb d_Math_max2_2 ?_
  refine lv_if_lt (tgt := 10) hx hb d_Math_max2_3 (by decide) (fun c_1 => ?_) (fun c_1 => ?_)
  · refine lv_lload_n hx hb d_Math_max2_10 rfl (lv_at hl 1 rfl) ?_
    have hP9 := hP.sub (ws' := []) [] rfl
    have hD9 := hD.sub (ws' := []) [] (by decide) rfl
    exact W.lret (v := y) hx hb hr (fun t9 ht hW => ⟨⟨y, (), rfl, by unfold m_Math_max2_r; simp only [if_pos c_1], by rw [ht]; exact hP9, va_K.moved hW.alike hK, hD9⟩, hS.F ht⟩) hS.2.2 d_Math_max2_11
  · refine lv_lload_n hx hb d_Math_max2_6 rfl (lv_at hl 0 rfl) ?_
    refine lv_goto (tgt := 11) hx hb d_Math_max2_7 (by decide) ?_
    have hP9 := hP.sub (ws' := []) [] rfl
    have hD9 := hD.sub (ws' := []) [] (by decide) rfl
    exact W.lret (v := x) hx hb hr (fun t9 ht hW => ⟨⟨x, (), rfl, by unfold m_Math_max2_r; simp only [if_neg c_1], by rw [ht]; exact hP9, va_K.moved hW.alike hK, hD9⟩, hS.F ht⟩) hS.2.2 d_Math_max2_11

def m_Math_min2_r (x : Int64) (y : Int64) : Int64 := if ((0 : Int32)) < ((lg_cmp x y)) then y else x
set_option maxHeartbeats 4000000 in
set_option maxRecDepth 100000 in
theorem c_Math_min2 (l : Launch) (dC : Nat → ClassId) (dI : Nat → Nat → Nat) (sz : Nat) (x : Int64) (y : Int64)  : Met l y_Math_min2 w_Math_min2 ({ frames := 0, cells := 0, slots := 0, locals := 0 }) (va_Pc [.long x, .long y] (fun U => U.heap.size = sz ∧ va_P (dC, dI) classes ([] : va_W) U.heap ∧ va_K (dC, dI) classes [] U ∧ va_D (fun _ => True) ([] : va_W))) (va_Ql (fun (r : Int64) (_ : Unit) => r = m_Math_min2_r x y) (fun (_ : Unit) t => va_P (dC, dI) classes ([] : va_W) t.heap ∧ va_K (dC, dI) classes [] t ∧ va_D (va_A ([] : va_W) sz) ([] : va_W)) (va_A ([] : va_W) sz)) 0 0 (va_A ([] : va_W) sz) := by
  refine mt_ofW (cc := b_Math_min2) (maxL := 4) (ret := (some .long)) (by decide +kernel) rfl ?_
  intro p e s m args below meth c s₁ B hml hv
  obtain ⟨rfl, hsz, hP, hK, hD0⟩ := hv
  have hx := B.exec
  have hb := B.bytes
  have hr := B.returns
  have hts := atoms_spec (ws := w_Math_min2) B.pre
  have htt : ∀ w ∈ tw_T, w.before _ s = true := fun w h => hts w (List.mem_cons_of_mem _ h)
  have hown : s.vm.findClass R_Math = some m.cls := findClass_of_methodNamed B.named
  have hlocks := B.notSynchronized
  subst hsz
  have hD := hD0.self (sz := s.heap.size)
  generalize hAe : va_A ([] : va_W) s.heap.size = A at hD ⊢
  have hA : ∀ q : Nat, s.heap.size ≤ q → A q := fun q h => by rw [← hAe]; exact Or.inr h
  have hS : va_S A s.heap s.heap [] := va_S.rf
  have hP : va_P (dC, dI) classes ([] : va_W) s.heap := hP
  have hl := lv_entry ([.long x, .long y]) (n := 4) (Nat.le_of_ble_eq_true rfl)
  rw [lg_entry_eq]
  generalize (lg_sl ([.long x, .long y]) ++ List.replicate (4 - (lg_sl ([.long x, .long y])).length) Slot.unset).toArray = ls at hl ⊢
  have hl : lv_has ls 4 [(0, .long x), (2, .long y)] := hl
  refine lv_lload_n hx hb d_Math_min2_0 rfl (lv_at hl 0 rfl) ?_
  refine lv_lload_n hx hb d_Math_min2_1 rfl (lv_at hl 1 rfl) ?_
  refine W.lcmp hx hb d_Math_min2_2 ?_
  refine lv_if_gt (tgt := 10) hx hb d_Math_min2_3 (by decide) (fun c_1 => ?_) (fun c_1 => ?_)
  · refine lv_lload_n hx hb d_Math_min2_10 rfl (lv_at hl 1 rfl) ?_
    have hP9 := hP.sub (ws' := []) [] rfl
    have hD9 := hD.sub (ws' := []) [] (by decide) rfl
    exact W.lret (v := y) hx hb hr (fun t9 ht hW => ⟨⟨y, (), rfl, by unfold m_Math_min2_r; simp only [if_pos c_1], by rw [ht]; exact hP9, va_K.moved hW.alike hK, hD9⟩, hS.F ht⟩) hS.2.2 d_Math_min2_11
  · refine lv_lload_n hx hb d_Math_min2_6 rfl (lv_at hl 0 rfl) ?_
    refine lv_goto (tgt := 11) hx hb d_Math_min2_7 (by decide) ?_
    have hP9 := hP.sub (ws' := []) [] rfl
    have hD9 := hD.sub (ws' := []) [] (by decide) rfl
    exact W.lret (v := x) hx hb hr (fun t9 ht hW => ⟨⟨x, (), rfl, by unfold m_Math_min2_r; simp only [if_neg c_1], by rw [ht]; exact hP9, va_K.moved hW.alike hK, hD9⟩, hS.F ht⟩) hS.2.2 d_Math_min2_11

def m_Long_compare_r (x : Int64) (y : Int64) : Int32 := if ((0 : Int32)) ≤ ((lg_cmp x y)) then if ((lg_cmp x y)) = ((0 : Int32)) then 0 else 1 else (-1)
set_option maxHeartbeats 4000000 in
set_option maxRecDepth 100000 in
theorem c_Long_compare (l : Launch) (dC : Nat → ClassId) (dI : Nat → Nat → Nat) (sz : Nat) (x : Int64) (y : Int64)  : Met l y_Long_compare w_Long_compare ({ frames := 0, cells := 0, slots := 0, locals := 0 }) (va_Pc [.long x, .long y] (fun U => U.heap.size = sz ∧ va_P (dC, dI) classes ([] : va_W) U.heap ∧ va_K (dC, dI) classes [] U ∧ va_D (fun _ => True) ([] : va_W))) (va_Qi (fun (r : Int32) (_ : Unit) => r = m_Long_compare_r x y) (fun (_ : Unit) t => va_P (dC, dI) classes ([] : va_W) t.heap ∧ va_K (dC, dI) classes [] t ∧ va_D (va_A ([] : va_W) sz) ([] : va_W)) (va_A ([] : va_W) sz)) 0 0 (va_A ([] : va_W) sz) := by
  refine Met.ofW (cc := b_Long_compare) (maxL := 4) (ret := (some .int)) (by decide) rfl ?_
  intro p e s m args below meth c s₁ B hml hv
  obtain ⟨rfl, hsz, hP, hK, hD0⟩ := hv
  have hx := B.exec
  have hb := B.bytes
  have hr := B.returns
  have hts := atoms_spec (ws := w_Long_compare) B.pre
  have htt : ∀ w ∈ tw_T, w.before _ s = true := fun w h => hts w (List.mem_cons_of_mem _ h)
  have hown : s.vm.findClass R_Long = some m.cls := findClass_of_methodNamed B.named
  have hlocks := B.notSynchronized
  subst hsz
  have hD := hD0.self (sz := s.heap.size)
  generalize hAe : va_A ([] : va_W) s.heap.size = A at hD ⊢
  have hA : ∀ q : Nat, s.heap.size ≤ q → A q := fun q h => by rw [← hAe]; exact Or.inr h
  have hS : va_S A s.heap s.heap [] := va_S.rf
  have hP : va_P (dC, dI) classes ([] : va_W) s.heap := hP
  have hl := lv_entry ([.long x, .long y]) (n := 4) (Nat.le_of_ble_eq_true rfl)
  rw [lg_entry_eq]
  generalize (lg_sl ([.long x, .long y]) ++ List.replicate (4 - (lg_sl ([.long x, .long y])).length) Slot.unset).toArray = ls at hl ⊢
  have hl : lv_has ls 4 [(0, .long x), (2, .long y)] := hl
  refine lv_lload_n hx hb d_Long_compare_0 rfl (lv_at hl 0 rfl) ?_
  refine lv_lload_n hx hb d_Long_compare_1 rfl (lv_at hl 1 rfl) ?_
  refine W.lcmp hx hb d_Long_compare_2 ?_
  refine lv_if_ge (tgt := 10) hx hb d_Long_compare_3 (by decide) (fun c_1 => ?_) (fun c_1 => ?_)
  · refine lv_lload_n hx hb d_Long_compare_10 rfl (lv_at hl 0 rfl) ?_
    refine lv_lload_n hx hb d_Long_compare_11 rfl (lv_at hl 1 rfl) ?_
    refine W.lcmp hx hb d_Long_compare_12 ?_
    refine lv_if_ne (tgt := 20) hx hb d_Long_compare_13 (by decide) (fun c_2 => ?_) (fun c_2 => ?_)
    · refine lv_iconst (v := 1) hx hb d_Long_compare_20 (by decide) ?_
      have hP9 := hP.sub (ws' := []) [] rfl
      have hD9 := hD.sub (ws' := []) [] (by decide) rfl
      exact W.iret (v := 1) hx hb hr (fun t9 ht hW => ⟨⟨1, (), rfl, by unfold m_Long_compare_r; simp only [if_pos c_1, if_neg c_2], by rw [ht]; exact hP9, va_K.moved hW.alike hK, hD9⟩, hS.F ht⟩) hS.2.2 d_Long_compare_21
    · refine lv_iconst (v := 0) hx hb d_Long_compare_16 (by decide) ?_
      refine lv_goto (tgt := 21) hx hb d_Long_compare_17 (by decide) ?_
      have hP9 := hP.sub (ws' := []) [] rfl
      have hD9 := hD.sub (ws' := []) [] (by decide) rfl
      exact W.iret (v := 0) hx hb hr (fun t9 ht hW => ⟨⟨0, (), rfl, by unfold m_Long_compare_r; simp only [if_pos c_1, if_pos c_2], by rw [ht]; exact hP9, va_K.moved hW.alike hK, hD9⟩, hS.F ht⟩) hS.2.2 d_Long_compare_21
  · refine lv_iconst (v := -1) hx hb d_Long_compare_6 (by decide) ?_
    refine lv_goto (tgt := 21) hx hb d_Long_compare_7 (by decide) ?_
    have hP9 := hP.sub (ws' := []) [] rfl
    have hD9 := hD.sub (ws' := []) [] (by decide) rfl
    exact W.iret (v := (-1)) hx hb hr (fun t9 ht hW => ⟨⟨(-1), (), rfl, by unfold m_Long_compare_r; simp only [if_neg c_1], by rw [ht]; exact hP9, va_K.moved hW.alike hK, hD9⟩, hS.F ht⟩) hS.2.2 d_Long_compare_21

def m_Math_abs_r (x : Int32) : Int32 := if ((0 : Int32)) ≤ x then x else -x
set_option maxHeartbeats 4000000 in
set_option maxRecDepth 100000 in
theorem c_Math_abs (l : Launch) (dC : Nat → ClassId) (dI : Nat → Nat → Nat) (sz : Nat) (x : Int32)  : Met l y_Math_abs w_Math_abs ({ frames := 0, cells := 0, slots := 0, locals := 0 }) (va_Pc [.int x] (fun U => U.heap.size = sz ∧ va_P (dC, dI) classes ([] : va_W) U.heap ∧ va_K (dC, dI) classes [] U ∧ va_D (fun _ => True) ([] : va_W))) (va_Qi (fun (r : Int32) (_ : Unit) => r = m_Math_abs_r x) (fun (_ : Unit) t => va_P (dC, dI) classes ([] : va_W) t.heap ∧ va_K (dC, dI) classes [] t ∧ va_D (va_A ([] : va_W) sz) ([] : va_W)) (va_A ([] : va_W) sz)) 0 0 (va_A ([] : va_W) sz) := by
  refine mt_ofW (cc := b_Math_abs) (maxL := 1) (ret := (some .int)) (by decide +kernel) rfl ?_
  intro p e s m args below meth c s₁ B hml hv
  obtain ⟨rfl, hsz, hP, hK, hD0⟩ := hv
  have hx := B.exec
  have hb := B.bytes
  have hr := B.returns
  have hts := atoms_spec (ws := w_Math_abs) B.pre
  have htt : ∀ w ∈ tw_T, w.before _ s = true := fun w h => hts w (List.mem_cons_of_mem _ h)
  have hown : s.vm.findClass R_Math = some m.cls := findClass_of_methodNamed B.named
  have hlocks := B.notSynchronized
  subst hsz
  have hD := hD0.self (sz := s.heap.size)
  generalize hAe : va_A ([] : va_W) s.heap.size = A at hD ⊢
  have hA : ∀ q : Nat, s.heap.size ≤ q → A q := fun q h => by rw [← hAe]; exact Or.inr h
  have hS : va_S A s.heap s.heap [] := va_S.rf
  have hP : va_P (dC, dI) classes ([] : va_W) s.heap := hP
  have hl := lv_entry ([.int x]) (n := 1) (Nat.le_of_ble_eq_true rfl)
  rw [lg_entry_eq]
  generalize (lg_sl ([.int x]) ++ List.replicate (1 - (lg_sl ([.int x])).length) Slot.unset).toArray = ls at hl ⊢
  have hl : lv_has ls 1 [(0, .int x)] := hl
  refine lv_iload_n hx hb d_Math_abs_0 rfl (lv_at hl 0 rfl) ?_
  refine lv_if_ge (tgt := 9) hx hb d_Math_abs_1 (by decide) (fun c_1 => ?_) (fun c_1 => ?_)
  · refine lv_iload_n hx hb d_Math_abs_9 rfl (lv_at hl 0 rfl) ?_
    have hP9 := hP.sub (ws' := []) [] rfl
    have hD9 := hD.sub (ws' := []) [] (by decide) rfl
    exact W.iret (v := x) hx hb hr (fun t9 ht hW => ⟨⟨x, (), rfl, by unfold m_Math_abs_r; simp only [if_pos c_1], by rw [ht]; exact hP9, va_K.moved hW.alike hK, hD9⟩, hS.F ht⟩) hS.2.2 d_Math_abs_10
  · refine lv_iload_n hx hb d_Math_abs_4 rfl (lv_at hl 0 rfl) ?_
    refine lv_ineg hx hb d_Math_abs_5 ?_
    refine lv_goto (tgt := 10) hx hb d_Math_abs_6 (by decide) ?_
    have hP9 := hP.sub (ws' := []) [] rfl
    have hD9 := hD.sub (ws' := []) [] (by decide) rfl
    exact W.iret (v := -x) hx hb hr (fun t9 ht hW => ⟨⟨-x, (), rfl, by unfold m_Math_abs_r; simp only [if_neg c_1], by rw [ht]; exact hP9, va_K.moved hW.alike hK, hD9⟩, hS.F ht⟩) hS.2.2 d_Math_abs_10

def m_Math_floorMod_r (x : Int32) (y : Int32) : Int32 := if ((0 : Int32)) ≤ ((x ^^^ y)) then (x - x / y * y) else if (x - x / y * y) = ((0 : Int32)) then (x - x / y * y) else (x - x / y * y) + y
set_option maxHeartbeats 4000000 in
set_option maxRecDepth 100000 in
theorem c_Math_floorMod (l : Launch) (dC : Nat → ClassId) (dI : Nat → Nat → Nat) (sz : Nat) (x : Int32) (y : Int32) (hy : ¬ y = 0) : Met l y_Math_floorMod w_Math_floorMod ({ frames := 0, cells := 0, slots := 0, locals := 0 }) (va_Pc [.int x, .int y] (fun U => U.heap.size = sz ∧ va_P (dC, dI) classes ([] : va_W) U.heap ∧ va_K (dC, dI) classes [] U ∧ va_D (fun _ => True) ([] : va_W))) (va_Qi (fun (r : Int32) (_ : Unit) => r = m_Math_floorMod_r x y) (fun (_ : Unit) t => va_P (dC, dI) classes ([] : va_W) t.heap ∧ va_K (dC, dI) classes [] t ∧ va_D (va_A ([] : va_W) sz) ([] : va_W)) (va_A ([] : va_W) sz)) 0 0 (va_A ([] : va_W) sz) := by
  refine mt_ofW (cc := b_Math_floorMod) (maxL := 3) (ret := (some .int)) (by decide +kernel) rfl ?_
  intro p e s m args below meth c s₁ B hml hv
  obtain ⟨rfl, hsz, hP, hK, hD0⟩ := hv
  have hx := B.exec
  have hb := B.bytes
  have hr := B.returns
  have hts := atoms_spec (ws := w_Math_floorMod) B.pre
  have htt : ∀ w ∈ tw_T, w.before _ s = true := fun w h => hts w (List.mem_cons_of_mem _ h)
  have hown : s.vm.findClass R_Math = some m.cls := findClass_of_methodNamed B.named
  have hlocks := B.notSynchronized
  subst hsz
  have hD := hD0.self (sz := s.heap.size)
  generalize hAe : va_A ([] : va_W) s.heap.size = A at hD ⊢
  have hA : ∀ q : Nat, s.heap.size ≤ q → A q := fun q h => by rw [← hAe]; exact Or.inr h
  have hS : va_S A s.heap s.heap [] := va_S.rf
  have hP : va_P (dC, dI) classes ([] : va_W) s.heap := hP
  have hl := lv_entry ([.int x, .int y]) (n := 3) (Nat.le_of_ble_eq_true rfl)
  rw [lg_entry_eq]
  generalize (lg_sl ([.int x, .int y]) ++ List.replicate (3 - (lg_sl ([.int x, .int y])).length) Slot.unset).toArray = ls at hl ⊢
  have hl : lv_has ls 3 [(0, .int x), (1, .int y)] := hl
  refine lv_iload_n hx hb d_Math_floorMod_0 rfl (lv_at hl 0 rfl) ?_
  refine lv_iload_n hx hb d_Math_floorMod_1 rfl (lv_at hl 1 rfl) ?_
  refine lv_irem hx hb d_Math_floorMod_2 (hy) ?_
  refine lv_topi (fun x_1 ex_1 => ?_)
  refine lv_istore_n (lv' := [(2, .int x_1), (0, .int x), (1, .int y)]) hx hb d_Math_floorMod_3 rfl hl (by decide) rfl (fun ls hl => ?_)
  refine lv_iload_n hx hb d_Math_floorMod_4 rfl (lv_at hl 1 rfl) ?_
  refine lv_iload_n hx hb d_Math_floorMod_5 rfl (lv_at hl 2 rfl) ?_
  refine lv_ixor hx hb d_Math_floorMod_6 ?_
  refine lv_if_ge (tgt := 18) hx hb d_Math_floorMod_7 (by decide) (fun c_2 => ?_) (fun c_2 => ?_)
  · refine lv_iload_n hx hb d_Math_floorMod_18 rfl (lv_at hl 0 rfl) ?_
    subst ex_1
    have hP9 := hP.sub (ws' := []) [] rfl
    have hD9 := hD.sub (ws' := []) [] (by decide) rfl
    exact W.iret (v := (x - x / y * y)) hx hb hr (fun t9 ht hW => ⟨⟨(x - x / y * y), (), rfl, by unfold m_Math_floorMod_r; simp only [if_pos c_2], by rw [ht]; exact hP9, va_K.moved hW.alike hK, hD9⟩, hS.F ht⟩) hS.2.2 d_Math_floorMod_19
  · refine lv_iload_n hx hb d_Math_floorMod_10 rfl (lv_at hl 0 rfl) ?_
    refine lv_if_eq (tgt := 18) hx hb d_Math_floorMod_11 (by decide) (fun c_3 => ?_) (fun c_3 => ?_)
    · refine lv_iload_n hx hb d_Math_floorMod_18 rfl (lv_at hl 0 rfl) ?_
      subst ex_1
      have hP9 := hP.sub (ws' := []) [] rfl
      have hD9 := hD.sub (ws' := []) [] (by decide) rfl
      exact W.iret (v := (x - x / y * y)) hx hb hr (fun t9 ht hW => ⟨⟨(x - x / y * y), (), rfl, by unfold m_Math_floorMod_r; simp only [if_neg c_2, if_pos c_3], by rw [ht]; exact hP9, va_K.moved hW.alike hK, hD9⟩, hS.F ht⟩) hS.2.2 d_Math_floorMod_19
    · refine lv_iload_n hx hb d_Math_floorMod_14 rfl (lv_at hl 0 rfl) ?_
      refine lv_iload_n hx hb d_Math_floorMod_15 rfl (lv_at hl 2 rfl) ?_
      refine lv_iadd hx hb d_Math_floorMod_16 ?_
      subst ex_1
      have hP9 := hP.sub (ws' := []) [] rfl
      have hD9 := hD.sub (ws' := []) [] (by decide) rfl
      exact W.iret (v := (x - x / y * y) + y) hx hb hr (fun t9 ht hW => ⟨⟨(x - x / y * y) + y, (), rfl, by unfold m_Math_floorMod_r; simp only [if_neg c_2, if_neg c_3], by rw [ht]; exact hP9, va_K.moved hW.alike hK, hD9⟩, hS.F ht⟩) hS.2.2 d_Math_floorMod_17

def m_Math_floorDiv_r (x : Int64) (y : Int64) : Int64 := if ((0 : Int32)) ≤ ((lg_cmp (x ^^^ y) 0)) then (x / y) else if ((lg_cmp ((x / y) * y) x)) = ((0 : Int32)) then (x / y) else (x / y) - 1
set_option maxHeartbeats 4000000 in
set_option maxRecDepth 100000 in
theorem c_Math_floorDiv (l : Launch) (dC : Nat → ClassId) (dI : Nat → Nat → Nat) (sz : Nat) (x : Int64) (y : Int64) (hy : ¬ y = 0) : Met l y_Math_floorDiv w_Math_floorDiv ({ frames := 0, cells := 0, slots := 0, locals := 0 }) (va_Pc [.long x, .long y] (fun U => U.heap.size = sz ∧ va_P (dC, dI) classes ([] : va_W) U.heap ∧ va_K (dC, dI) classes [] U ∧ va_D (fun _ => True) ([] : va_W))) (va_Ql (fun (r : Int64) (_ : Unit) => r = m_Math_floorDiv_r x y) (fun (_ : Unit) t => va_P (dC, dI) classes ([] : va_W) t.heap ∧ va_K (dC, dI) classes [] t ∧ va_D (va_A ([] : va_W) sz) ([] : va_W)) (va_A ([] : va_W) sz)) 0 0 (va_A ([] : va_W) sz) := by
  refine mt_ofW (cc := b_Math_floorDiv) (maxL := 6) (ret := (some .long)) (by decide +kernel) rfl ?_
  intro p e s m args below meth c s₁ B hml hv
  obtain ⟨rfl, hsz, hP, hK, hD0⟩ := hv
  have hx := B.exec
  have hb := B.bytes
  have hr := B.returns
  have hts := atoms_spec (ws := w_Math_floorDiv) B.pre
  have htt : ∀ w ∈ tw_T, w.before _ s = true := fun w h => hts w (List.mem_cons_of_mem _ h)
  have hown : s.vm.findClass R_Math = some m.cls := findClass_of_methodNamed B.named
  have hlocks := B.notSynchronized
  subst hsz
  have hD := hD0.self (sz := s.heap.size)
  generalize hAe : va_A ([] : va_W) s.heap.size = A at hD ⊢
  have hA : ∀ q : Nat, s.heap.size ≤ q → A q := fun q h => by rw [← hAe]; exact Or.inr h
  have hS : va_S A s.heap s.heap [] := va_S.rf
  have hP : va_P (dC, dI) classes ([] : va_W) s.heap := hP
  have hl := lv_entry ([.long x, .long y]) (n := 6) (Nat.le_of_ble_eq_true rfl)
  rw [lg_entry_eq]
  generalize (lg_sl ([.long x, .long y]) ++ List.replicate (6 - (lg_sl ([.long x, .long y])).length) Slot.unset).toArray = ls at hl ⊢
  have hl : lv_has ls 6 [(0, .long x), (2, .long y)] := hl
  refine lv_lload_n hx hb d_Math_floorDiv_0 rfl (lv_at hl 0 rfl) ?_
  refine lv_lload_n hx hb d_Math_floorDiv_1 rfl (lv_at hl 1 rfl) ?_
  refine lv_ldiv hx hb d_Math_floorDiv_2 (hy) ?_
  refine lv_topl (fun x_1 ex_1 => ?_)
  refine lv_lstore (lv' := [(4, .long x_1), (0, .long x), (2, .long y)]) hx hb d_Math_floorDiv_3 hl (by decide) rfl (fun ls hl => ?_)
  refine lv_lload_n hx hb d_Math_floorDiv_5 rfl (lv_at hl 1 rfl) ?_
  refine lv_lload_n hx hb d_Math_floorDiv_6 rfl (lv_at hl 2 rfl) ?_
  refine lv_lxor hx hb d_Math_floorDiv_7 ?_
  refine lv_lconst (v := 0) hx hb d_Math_floorDiv_8 (by decide) ?_
  refine W.lcmp hx hb d_Math_floorDiv_9 ?_
  refine lv_if_ge (tgt := 27) hx hb d_Math_floorDiv_10 (by decide) (fun c_2 => ?_) (fun c_2 => ?_)
  · refine lv_lload hx hb d_Math_floorDiv_27 (lv_at hl 0 rfl) ?_
    subst ex_1
    have hP9 := hP.sub (ws' := []) [] rfl
    have hD9 := hD.sub (ws' := []) [] (by decide) rfl
    exact W.lret (v := (x / y)) hx hb hr (fun t9 ht hW => ⟨⟨(x / y), (), rfl, by unfold m_Math_floorDiv_r; simp only [if_pos c_2], by rw [ht]; exact hP9, va_K.moved hW.alike hK, hD9⟩, hS.F ht⟩) hS.2.2 d_Math_floorDiv_29
  · refine lv_lload hx hb d_Math_floorDiv_13 (lv_at hl 0 rfl) ?_
    refine lv_lload_n hx hb d_Math_floorDiv_15 rfl (lv_at hl 2 rfl) ?_
    refine lv_lmul hx hb d_Math_floorDiv_16 ?_
    refine lv_lload_n hx hb d_Math_floorDiv_17 rfl (lv_at hl 1 rfl) ?_
    refine W.lcmp hx hb d_Math_floorDiv_18 ?_
    refine lv_if_eq (tgt := 27) hx hb d_Math_floorDiv_19 (by decide) (fun c_3 => ?_) (fun c_3 => ?_)
    · refine lv_lload hx hb d_Math_floorDiv_27 (lv_at hl 0 rfl) ?_
      subst ex_1
      have hP9 := hP.sub (ws' := []) [] rfl
      have hD9 := hD.sub (ws' := []) [] (by decide) rfl
      exact W.lret (v := (x / y)) hx hb hr (fun t9 ht hW => ⟨⟨(x / y), (), rfl, by unfold m_Math_floorDiv_r; simp only [if_neg c_2, if_pos c_3], by rw [ht]; exact hP9, va_K.moved hW.alike hK, hD9⟩, hS.F ht⟩) hS.2.2 d_Math_floorDiv_29
    · refine lv_lload hx hb d_Math_floorDiv_22 (lv_at hl 0 rfl) ?_
      refine lv_lconst (v := 1) hx hb d_Math_floorDiv_24 (by decide) ?_
      refine lv_lsub hx hb d_Math_floorDiv_25 ?_
      subst ex_1
      have hP9 := hP.sub (ws' := []) [] rfl
      have hD9 := hD.sub (ws' := []) [] (by decide) rfl
      exact W.lret (v := (x / y) - 1) hx hb hr (fun t9 ht hW => ⟨⟨(x / y) - 1, (), rfl, by unfold m_Math_floorDiv_r; simp only [if_neg c_2, if_neg c_3], by rw [ht]; exact hP9, va_K.moved hW.alike hK, hD9⟩, hS.F ht⟩) hS.2.2 d_Math_floorDiv_26

def js_fill (v : Int32) : Nat → Nat → (Nat → Int32) → (Nat → Int32)
  | _, 0, f => f
  | i, n + 1, f => js_fill v (i + 1) n (upd f i v)

set_option maxHeartbeats 4000000 in
set_option maxRecDepth 100000 in
/-- the loop -/
theorem lp_Arrays_fill_5 (l : Launch) (dC : Nat → ClassId) (dI : Nat → Nat → Nat) (h0 : Nat) (cI : ClassId) (k : Nat) (f : Nat → Int32) (v : Int32) (hk : k < 2 ^ 31) {p : Program} {e : Env} {s : State} {m : MethodId} {below : List Frame} {meth : Method} {c : Code} {A : Nat → Prop} {Q : State → Prop} {cells slots : Nat} (hx : p.tables.exec = Jvm.exec) (hb : c.code = b_Arrays_fill) (hml : c.maxLocals = 4) (hown : s.vm.findClass R_Arrays = some m.cls) (hts : ∀ w ∈ w_Arrays_fill, w.before ([.ref h0, .int v] : List Value).toArray s = true) (hK : va_K (dC, dI) classes [(cI, .int)] s) (hA : ∀ q : Nat, s.heap.size ≤ q → A q) (S : Nat → Int32) (K : ∀ (H : Heap) (locs : List Loc) (ls : Array Slot), va_P (dC, dI) classes [(h0, .inl (cI, k, .inl S))] H → va_D A [(h0, .inl (cI, k, .inl S))] → va_S A s.heap H locs → lv_has ls 4 [(2, .int (nI k)), (3, .int (nI k)), (0, .ref h0), (1, .int v)] → W p l e ({ frames := 0, cells := 0, slots := 0, locals := 0 } : Room) s m ([.ref h0, .int v] : List Value).toArray below meth c H locs cells slots Q (F0 m 20 ls [])) : ∀ (n : Nat) (i : Nat) (g : Nat → Int32), i + n = k → js_fill v i n g = S → ∀ (H : Heap) (locs : List Loc) (ls : Array Slot), va_P (dC, dI) classes [(h0, .inl (cI, k, .inl g))] H → va_D A [(h0, .inl (cI, k, .inl g))] → va_S A s.heap H locs → lv_has ls 4 [(2, .int (nI i)), (3, .int (nI k)), (0, .ref h0), (1, .int v)] → W p l e ({ frames := 0, cells := 0, slots := 0, locals := 0 } : Room) s m ([.ref h0, .int v] : List Value).toArray below meth c H locs cells slots Q (F0 m 5 ls []) := by
  have htt : ∀ w ∈ tw_T, w.before _ s = true := fun w h => hts w (List.mem_cons_of_mem _ h)
  intro n
  induction n with
  | zero =>
    intro i g hi hT H locs ls hP hD hS hl
    refine lv_iload_n hx hb d_Arrays_fill_5 rfl (lv_at hl 0 rfl) ?_
    refine lv_iload_n hx hb d_Arrays_fill_6 rfl (lv_at hl 1 rfl) ?_
    refine lv_icmp_ge (tgt := 20) hx hb d_Arrays_fill_7 (by decide) (fun c_1 => ?_) (fun c_1 => ?_)
    · obtain rfl : i = k := by omega
      subst hT
      exact K _ _ _ (hP.sub [0] rfl) (hD.sub [0] (by decide) rfl) hS (lv_sub hl [0, 1, 2, 3] rfl)
    · exact absurd (nI_le (by omega) (by omega)) c_1
  | succ n ih =>
    intro i g hi hT H locs ls hP hD hS hl
    refine lv_iload_n hx hb d_Arrays_fill_5 rfl (lv_at hl 0 rfl) ?_
    refine lv_iload_n hx hb d_Arrays_fill_6 rfl (lv_at hl 1 rfl) ?_
    refine lv_icmp_ge (tgt := 20) hx hb d_Arrays_fill_7 (by decide) (fun c_2 => ?_) (fun c_2 => ?_)
    · exact absurd c_2 (nI_ge (by omega) (by omega))
    · refine lv_aload_n hx hb d_Arrays_fill_10 rfl (lv_at hl 2 rfl) ?_
      refine lv_iload_n hx hb d_Arrays_fill_11 rfl (lv_at hl 0 rfl) ?_
      refine lv_iload_n hx hb d_Arrays_fill_12 rfl (lv_at hl 3 rfl) ?_
      have h_3 : vp_in (nI i) k := vp_in_nI (by omega) (by omega)
      refine va_iast hx hb hK hP hD hS 0 0 rfl rfl h_3 d_Arrays_fill_13 (fun H locs hP hD hS => ?_)
      have hP : va_P (dC, dI) classes [(h0, .inl (cI, k, .inl (upd g (nI i).toNatClampNeg v)))] H := hP
      have hD : va_D A [(h0, .inl (cI, k, .inl (upd g (nI i).toNatClampNeg v)))] := hD
      refine lv_iinc (v := nI (i + 1)) (lv' := [(2, .int (nI (i + 1))), (3, .int (nI k)), (0, .ref h0), (1, .int v)]) hx hb d_Arrays_fill_14 hl (k := 0) rfl (nI_1 _) (by decide) rfl (fun ls hl => ?_)
      refine lv_goto (tgt := 5) hx hb d_Arrays_fill_17 (by decide) ?_
      rw [nI_clamp (by omega)] at hP hD
      exact ih (i + 1) (upd g i v) (by omega) (hT) _ _ _ (hP.sub [0] rfl) (hD.sub [0] (by decide) rfl) hS (lv_sub hl [0, 1, 2, 3] rfl)

set_option maxHeartbeats 4000000 in
set_option maxRecDepth 100000 in
/-- Arrays.fill of an int array -/
theorem c_Arrays_fill (l : Launch) (dC : Nat → ClassId) (dI : Nat → Nat → Nat) (sz : Nat) (h0 : Nat) (cI : ClassId) (k : Nat) (f : Nat → Int32) (v : Int32) (hk : k < 2 ^ 31) : Met l y_Arrays_fill w_Arrays_fill ({ frames := 0, cells := 0, slots := 0, locals := 0 }) (va_Pc [.ref h0, .int v] (fun U => U.heap.size = sz ∧ va_P (dC, dI) classes [(h0, .inl (cI, k, .inl f))] U.heap ∧ va_K (dC, dI) classes [(cI, .int)] U ∧ va_D (fun _ => True) [(h0, .inl (cI, k, .inl f))])) (va_Qv (fun (_ : Unit) => True) (fun (_ : Unit) t => va_P (dC, dI) classes [(h0, .inl (cI, k, .inl (js_fill v 0 k f)))] t.heap ∧ va_K (dC, dI) classes [(cI, .int)] t ∧ va_D (va_A [(h0, .inl (cI, k, .inl f))] sz) [(h0, .inl (cI, k, .inl (js_fill v 0 k f)))]) (va_A [(h0, .inl (cI, k, .inl f))] sz)) 0 0 (va_A [(h0, .inl (cI, k, .inl f))] sz) := by
  refine Met.ofW (cc := b_Arrays_fill) (maxL := 4) (ret := none) (by decide) rfl ?_
  intro p e s m args below meth c s₁ B hml hv
  obtain ⟨rfl, hsz, hP, hK, hD0⟩ := hv
  have hx := B.exec
  have hb := B.bytes
  have hr := B.returns
  have hts := atoms_spec (ws := w_Arrays_fill) B.pre
  have htt : ∀ w ∈ tw_T, w.before _ s = true := fun w h => hts w (List.mem_cons_of_mem _ h)
  have hown : s.vm.findClass R_Arrays = some m.cls := findClass_of_methodNamed B.named
  have hlocks := B.notSynchronized
  subst hsz
  have hD := hD0.self (sz := s.heap.size)
  generalize hAe : va_A [(h0, .inl (cI, k, .inl f))] s.heap.size = A at hD ⊢
  have hA : ∀ q : Nat, s.heap.size ≤ q → A q := fun q h => by rw [← hAe]; exact Or.inr h
  have hS : va_S A s.heap s.heap [] := va_S.rf
  have hP : va_P (dC, dI) classes [(h0, .inl (cI, k, .inl f))] s.heap := hP
  have hl := lv_entry ([.ref h0, .int v]) (n := 4) (Nat.le_of_ble_eq_true rfl)
  rw [lg_entry_eq]
  generalize (lg_sl ([.ref h0, .int v]) ++ List.replicate (4 - (lg_sl ([.ref h0, .int v])).length) Slot.unset).toArray = ls at hl ⊢
  have hl : lv_has ls 4 [(0, .ref h0), (1, .int v)] := hl
  refine lv_iconst (v := 0) hx hb d_Arrays_fill_0 (by decide) ?_
  refine lv_istore_n (lv' := [(2, .int 0), (0, .ref h0), (1, .int v)]) hx hb d_Arrays_fill_1 rfl hl (by decide) rfl (fun ls hl => ?_)
  refine lv_aload_n hx hb d_Arrays_fill_2 rfl (lv_at hl 1 rfl) ?_
  refine va_alen (v := nI k) hx hb hK hP 0 0 rfl rfl rfl d_Arrays_fill_3 ?_
  refine lv_istore_n (lv' := [(3, .int (nI k)), (2, .int 0), (0, .ref h0), (1, .int v)]) hx hb d_Arrays_fill_4 rfl hl (by decide) rfl (fun ls hl => ?_)
  refine lp_Arrays_fill_5 l dC dI h0 cI k f v hk hx hb hml hown hts hK hA (js_fill v 0 k f) (fun H locs ls hP hD hS hl => ?_) k 0 f (by omega) (rfl) _ _ _ (hP.sub [0] rfl) (hD.sub [0] (by decide) rfl) hS (lv_sub hl [1, 0, 2, 3] rfl)
  have hP9 := hP.sub (ws' := [(h0, .inl (cI, k, .inl (js_fill v 0 k f)))]) [0] rfl
  have hD9 := hD.sub (ws' := [(h0, .inl (cI, k, .inl (js_fill v 0 k f)))]) [0] (by decide) rfl
  exact W.vret hx hb hr (fun t9 ht hW => ⟨⟨(), rfl, trivial, by rw [ht]; exact hP9, va_K.moved hW.alike hK, hD9⟩, hS.F ht⟩) hS.2.2 d_Arrays_fill_20
