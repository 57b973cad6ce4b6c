theorem d_Line_callAt_0 : decode b_Line_callAt 0 = .ok (.iconst 0, 1) := by decide +kernel
theorem d_Line_callAt_1 : decode b_Line_callAt 1 = .ok (.istore_n 2, 1) := by decide +kernel
theorem d_Line_callAt_2 : decode b_Line_callAt 2 = .ok (.aload_n 0, 1) := by decide +kernel
theorem d_Line_callAt_3 : decode b_Line_callAt 3 = .ok (.getfield 62, 3) := by decide +kernel
theorem d_Line_callAt_6 : decode b_Line_callAt 6 = .ok (.iconst 1, 1) := by decide +kernel
theorem d_Line_callAt_7 : decode b_Line_callAt 7 = .ok (.isub, 1) := by decide +kernel
theorem d_Line_callAt_8 : decode b_Line_callAt 8 = .ok (.istore_n 3, 1) := by decide +kernel
theorem d_Line_callAt_9 : decode b_Line_callAt 9 = .ok (.iload_n 3, 1) := by decide +kernel
theorem d_Line_callAt_10 : decode b_Line_callAt 10 = .ok (.ifCond .lt 29, 3) := by decide +kernel
theorem d_Line_callAt_13 : decode b_Line_callAt 13 = .ok (.aload_n 0, 1) := by decide +kernel
theorem d_Line_callAt_14 : decode b_Line_callAt 14 = .ok (.getfield 9, 3) := by decide +kernel
theorem d_Line_callAt_17 : decode b_Line_callAt 17 = .ok (.iload_n 3, 1) := by decide +kernel
theorem d_Line_callAt_18 : decode b_Line_callAt 18 = .ok (.iaload, 1) := by decide +kernel
theorem d_Line_callAt_19 : decode b_Line_callAt 19 = .ok (.iconst 1, 1) := by decide +kernel
theorem d_Line_callAt_20 : decode b_Line_callAt 20 = .ok (.if_icmp .ne 13, 3) := by decide +kernel
theorem d_Line_callAt_23 : decode b_Line_callAt 23 = .ok (.iload_n 2, 1) := by decide +kernel
theorem d_Line_callAt_24 : decode b_Line_callAt 24 = .ok (.iload_n 1, 1) := by decide +kernel
theorem d_Line_callAt_25 : decode b_Line_callAt 25 = .ok (.if_icmp .ne 5, 3) := by decide +kernel
theorem d_Line_callAt_28 : decode b_Line_callAt 28 = .ok (.iload_n 3, 1) := by decide +kernel
theorem d_Line_callAt_29 : decode b_Line_callAt 29 = .ok (.ireturn, 1) := by decide +kernel
theorem d_Line_callAt_30 : decode b_Line_callAt 30 = .ok (.iinc 2 1, 3) := by decide +kernel
theorem d_Line_callAt_33 : decode b_Line_callAt 33 = .ok (.iinc 3 (-1), 3) := by decide +kernel
theorem d_Line_callAt_36 : decode b_Line_callAt 36 = .ok (.goto (-27), 3) := by decide +kernel
theorem d_Line_callAt_39 : decode b_Line_callAt 39 = .ok (.iconst (-1), 1) := by decide +kernel
theorem d_Line_callAt_40 : decode b_Line_callAt 40 = .ok (.ireturn, 1) := by decide +kernel
theorem lk_Line_9 : Cond.fieldLink "TurtleWorld$Line" 9 "TurtleWorld$Line" "kind" "[I" ∈ tw_T := tw_i3 16 (by decide +kernel) (by decide +kernel)
theorem d_Line_newest_0 : decode b_Line_newest 0 = .ok (.aload_n 0, 1) := by decide +kernel
theorem d_Line_newest_1 : decode b_Line_newest 1 = .ok (.getfield 62, 3) := by decide +kernel
theorem d_Line_newest_4 : decode b_Line_newest 4 = .ok (.iconst 1, 1) := by decide +kernel
theorem d_Line_newest_5 : decode b_Line_newest 5 = .ok (.isub, 1) := by decide +kernel
theorem d_Line_newest_6 : decode b_Line_newest 6 = .ok (.istore_n 3, 1) := by decide +kernel
theorem d_Line_newest_7 : decode b_Line_newest 7 = .ok (.iload_n 3, 1) := by decide +kernel
theorem d_Line_newest_8 : decode b_Line_newest 8 = .ok (.ifCond .lt 41, 3) := by decide +kernel
theorem d_Line_newest_11 : decode b_Line_newest 11 = .ok (.aload_n 0, 1) := by decide +kernel
theorem d_Line_newest_12 : decode b_Line_newest 12 = .ok (.getfield 9, 3) := by decide +kernel
theorem d_Line_newest_15 : decode b_Line_newest 15 = .ok (.iload_n 3, 1) := by decide +kernel
theorem d_Line_newest_16 : decode b_Line_newest 16 = .ok (.iaload, 1) := by decide +kernel
theorem d_Line_newest_17 : decode b_Line_newest 17 = .ok (.iconst 1, 1) := by decide +kernel
theorem d_Line_newest_18 : decode b_Line_newest 18 = .ok (.if_icmp .eq 31, 3) := by decide +kernel
theorem d_Line_newest_21 : decode b_Line_newest 21 = .ok (.aload_n 0, 1) := by decide +kernel
theorem d_Line_newest_22 : decode b_Line_newest 22 = .ok (.getfield 9, 3) := by decide +kernel
theorem d_Line_newest_25 : decode b_Line_newest 25 = .ok (.iload_n 3, 1) := by decide +kernel
theorem d_Line_newest_26 : decode b_Line_newest 26 = .ok (.iaload, 1) := by decide +kernel
theorem d_Line_newest_27 : decode b_Line_newest 27 = .ok (.iload_n 1, 1) := by decide +kernel
theorem d_Line_newest_28 : decode b_Line_newest 28 = .ok (.if_icmp .eq 13, 3) := by decide +kernel
theorem d_Line_newest_31 : decode b_Line_newest 31 = .ok (.aload_n 0, 1) := by decide +kernel
theorem d_Line_newest_32 : decode b_Line_newest 32 = .ok (.getfield 9, 3) := by decide +kernel
theorem d_Line_newest_35 : decode b_Line_newest 35 = .ok (.iload_n 3, 1) := by decide +kernel
theorem d_Line_newest_36 : decode b_Line_newest 36 = .ok (.iaload, 1) := by decide +kernel
theorem d_Line_newest_37 : decode b_Line_newest 37 = .ok (.iload_n 2, 1) := by decide +kernel
theorem d_Line_newest_38 : decode b_Line_newest 38 = .ok (.if_icmp .ne 5, 3) := by decide +kernel
theorem d_Line_newest_41 : decode b_Line_newest 41 = .ok (.iload_n 3, 1) := by decide +kernel
theorem d_Line_newest_42 : decode b_Line_newest 42 = .ok (.ireturn, 1) := by decide +kernel
theorem d_Line_newest_43 : decode b_Line_newest 43 = .ok (.iinc 3 (-1), 3) := by decide +kernel
theorem d_Line_newest_46 : decode b_Line_newest 46 = .ok (.goto (-39), 3) := by decide +kernel
theorem d_Line_newest_49 : decode b_Line_newest 49 = .ok (.iconst (-1), 1) := by decide +kernel
theorem d_Line_newest_50 : decode b_Line_newest 50 = .ok (.ireturn, 1) := by decide +kernel
theorem d_Names_countValues_0 : decode b_Names_countValues 0 = .ok (.iconst 0, 1) := by decide +kernel
theorem d_Names_countValues_1 : decode b_Names_countValues 1 = .ok (.istore_n 3, 1) := by decide +kernel
theorem d_Names_countValues_2 : decode b_Names_countValues 2 = .ok (.iload_n 1, 1) := by decide +kernel
theorem d_Names_countValues_3 : decode b_Names_countValues 3 = .ok (.iconst 0, 1) := by decide +kernel
theorem d_Names_countValues_4 : decode b_Names_countValues 4 = .ok (.invokestatic 58, 3) := by decide +kernel
theorem d_Names_countValues_7 : decode b_Names_countValues 7 = .ok (.istore 4, 2) := by decide +kernel
theorem d_Names_countValues_9 : decode b_Names_countValues 9 = .ok (.iload 4, 2) := by decide +kernel
theorem d_Names_countValues_11 : decode b_Names_countValues 11 = .ok (.iload_n 2, 1) := by decide +kernel
theorem d_Names_countValues_12 : decode b_Names_countValues 12 = .ok (.if_icmp .ge 32, 3) := by decide +kernel
theorem d_Names_countValues_15 : decode b_Names_countValues 15 = .ok (.iload 4, 2) := by decide +kernel
theorem d_Names_countValues_17 : decode b_Names_countValues 17 = .ok (.sipush 1800, 3) := by decide +kernel
theorem d_Names_countValues_20 : decode b_Names_countValues 20 = .ok (.if_icmp .ge 24, 3) := by decide +kernel
theorem d_Names_countValues_23 : decode b_Names_countValues 23 = .ok (.aload_n 0, 1) := by decide +kernel
theorem d_Names_countValues_24 : decode b_Names_countValues 24 = .ok (.getfield 21, 3) := by decide +kernel
theorem d_Names_countValues_27 : decode b_Names_countValues 27 = .ok (.iload 4, 2) := by decide +kernel
theorem d_Names_countValues_29 : decode b_Names_countValues 29 = .ok (.iaload, 1) := by decide +kernel
theorem d_Names_countValues_30 : decode b_Names_countValues 30 = .ok (.ldc 48, 2) := by decide +kernel
theorem d_Names_countValues_32 : decode b_Names_countValues 32 = .ok (.if_icmp .eq 6, 3) := by decide +kernel
theorem d_Names_countValues_35 : decode b_Names_countValues 35 = .ok (.iinc 3 1, 3) := by decide +kernel
theorem d_Names_countValues_38 : decode b_Names_countValues 38 = .ok (.iinc 4 1, 3) := by decide +kernel
theorem d_Names_countValues_41 : decode b_Names_countValues 41 = .ok (.goto (-32), 3) := by decide +kernel
theorem d_Names_countValues_44 : decode b_Names_countValues 44 = .ok (.iload_n 3, 1) := by decide +kernel
theorem d_Names_countValues_45 : decode b_Names_countValues 45 = .ok (.ireturn, 1) := by decide +kernel
theorem lk_Names_58 : Cond.methodLink "TurtleWorld$Names" 58 ⟨"java/lang/Math", "max", "(II)I"⟩ ∈ tw_T := tw_i7 214 (by decide +kernel) (by decide +kernel)
theorem dn_step {i : Int32} (h : ¬ i < 0) : (i + (-1)).toInt = i.toInt - 1 := by
  simp only [Int32.lt_iff_toInt_lt, Int32.reduceToInt] at h
  have := Int32.toInt_lt i
  have h1 : (-1 : Int32).toInt = -1 := by decide
  have e : (i + (-1)).toInt = i.toInt + (-1 : Int32).toInt := i32_add (by rw [h1]; omega) (by rw [h1]; omega)
  rw [e, h1]; omega
theorem up_step {i : Int32} (h : i.toInt < 2147483647) : (i + 1).toInt = i.toInt + 1 := by
  have := Int32.le_toInt i
  have e : (i + 1).toInt = i.toInt + (1 : Int32).toInt := i32_add (by simp only [Int32.reduceToInt]; omega) (by simp only [Int32.reduceToInt]; omega)
  rw [e]; simp only [Int32.reduceToInt]
theorem mx0 (a : Int32) : 0 ≤ (m_Math_max_r a 0).toInt := by
  unfold m_Math_max_r
  split
  · simp only [Int32.reduceToInt]; omega
  · rename_i h
    simp only [Int32.lt_iff_toInt_lt, Int32.reduceToInt] at h; omega
theorem sub1 {x : Int32} (h0 : ¬ x < 0) : (x - 1).toInt = x.toInt - 1 := by
  simp only [Int32.lt_iff_toInt_lt, Int32.reduceToInt] at h0
  have := Int32.toInt_lt x
  have e : (x - 1).toInt = x.toInt - (1 : Int32).toInt := i32_sub (by simp only [Int32.reduceToInt]; omega) (by simp only [Int32.reduceToInt]; omega)
  rw [e]; simp only [Int32.reduceToInt]

def m_Line_callAt_L9_r (l_depth : Int32) (l_kind_v : Nat → Int32) (k : Int32) : Nat → Int32 → Int32 → Int32
  | 0, _, _ => 0
  | n + 1, i, seen => if i < ((0 : Int32)) then (-1) else if ((l_kind_v i.toNatClampNeg)) = ((1 : Int32)) then if seen = k then i else m_Line_callAt_L9_r l_depth l_kind_v k n ((i + (-1))) ((seen + 1)) else m_Line_callAt_L9_r l_depth l_kind_v k n ((i + (-1))) seen
def m_Line_callAt_r (l_depth : Int32) (l_kind_v : Nat → Int32) (k : Int32) : Int32 := m_Line_callAt_L9_r l_depth l_kind_v k ((((l_depth - 1)).toInt + 1).toNat + 1) ((l_depth - 1)) 0
set_option maxHeartbeats 4000000 in
set_option maxRecDepth 100000 in
theorem lp_Line_callAt_9 (l : Launch) (dC : Nat → ClassId) (dI : Nat → Nat → Nat) (h0 : Nat) (l_heap : Nat) (l_state : Int32) (l_error : Int32) (l_done : Int32) (l_made : Int32) (l_caught : Int32) (l_depth : Int32) (l_calls : Int32) (l_kind : Nat) (l_list : Nat) (l_next : Nat) (l_turns : Nat) (l_limit : Nat) (l_other : Nat) (l_mark : Nat) (l_waits : Nat) (l_values : Nat) (l_locals : Nat) (l_kind_v : Nat → Int32) (cI : ClassId) (k : Int32) (hd : ¬ l_depth < 0) (hd2 : l_depth ≤ 150) {p : Program} {e : Env} {s : State} {m : MethodId} {below : List Frame} {meth : Method} {c : Code} {A : Nat → Prop} (hx : p.tables.exec = Jvm.exec) (hb : c.code = b_Line_callAt) (hml : c.maxLocals = 4) (hown : s.vm.findClass R_Line = some m.cls) (hts : ∀ w ∈ w_Line_callAt, w.before ([.ref h0, .int k] : List Value).toArray s = true) (hK : va_K (dC, dI) classes [(cI, .int)] s) (hA : ∀ q : Nat, s.heap.size ≤ q → A q) (hr : meth.sig.returnType = (some .int)) (hlocks : meth.locks = false) (RV0 : Int32) : ∀ (n : Nat) (i : Int32) (seen : Int32), i.toInt < 150 → (i.toInt + 1).toNat < n → m_Line_callAt_L9_r l_depth l_kind_v k n i seen = RV0 → ∀ (H : Heap) (locs : List Loc) (ls : Array Slot), va_P (dC, dI) classes [(h0, .inr (8, [.ref l_heap, .int l_state, .int l_error, .int l_done, .int l_made, .int l_caught, .int l_depth, .int l_calls, .ref l_kind, .ref l_list, .ref l_next, .ref l_turns, .ref l_limit, .ref l_other, .ref l_mark, .ref l_waits, .ref l_values, .ref l_locals])), (l_kind, .inl (cI, 150, .inl l_kind_v))] H → va_D A [(h0, .inr (8, [.ref l_heap, .int l_state, .int l_error, .int l_done, .int l_made, .int l_caught, .int l_depth, .int l_calls, .ref l_kind, .ref l_list, .ref l_next, .ref l_turns, .ref l_limit, .ref l_other, .ref l_mark, .ref l_waits, .ref l_values, .ref l_locals])), (l_kind, .inl (cI, 150, .inl l_kind_v))] → va_S A s.heap H locs → lv_has ls 4 [(3, .int i), (2, .int seen), (0, .ref h0), (1, .int k)] → W p l e ({ frames := 0, cells := 0, slots := 0, locals := 0 } : Room) s m ([.ref h0, .int k] : List Value).toArray below meth c H locs 0 0 (MQ below (va_Qi (fun (r : Int32) (_ : Unit) => r = RV0) (fun (_ : Unit) t => va_P (dC, dI) classes [(h0, .inr (8, [.ref l_heap, .int l_state, .int l_error, .int l_done, .int l_made, .int l_caught, .int l_depth, .int l_calls, .ref l_kind, .ref l_list, .ref l_next, .ref l_turns, .ref l_limit, .ref l_other, .ref l_mark, .ref l_waits, .ref l_values, .ref l_locals])), (l_kind, .inl (cI, 150, .inl l_kind_v))] t.heap ∧ va_K (dC, dI) classes [(cI, .int)] t ∧ va_D A [(h0, .inr (8, [.ref l_heap, .int l_state, .int l_error, .int l_done, .int l_made, .int l_caught, .int l_depth, .int l_calls, .ref l_kind, .ref l_list, .ref l_next, .ref l_turns, .ref l_limit, .ref l_other, .ref l_mark, .ref l_waits, .ref l_values, .ref l_locals])), (l_kind, .inl (cI, 150, .inl l_kind_v))]) A) ([.ref h0, .int k] : List Value).toArray s 0 0 A) (F0 m 9 ls []) := by
  have htt : ∀ w ∈ tw_T, w.before _ s = true := fun w h => hts w (List.mem_cons_of_mem _ h)
  intro n
  induction n with
  | zero =>
    intro i seen hi hmu
    exact absurd hmu (Nat.not_lt_zero _)
  | succ n ih =>
    intro i seen hi hmu hR0 H locs ls hP hD hS hl
    refine lv_iload_n hx hb d_Line_callAt_9 rfl (lv_at hl 0 rfl) ?_
    refine lv_if_lt (tgt := 39) hx hb d_Line_callAt_10 (by decide) (fun c_1 => ?_) (fun c_1 => ?_)
    · refine lv_iconst (v := -1) hx hb d_Line_callAt_39 (by decide) ?_
      have hP9 := hP.sub (ws' := [(h0, .inr (8, [.ref l_heap, .int l_state, .int l_error, .int l_done, .int l_made, .int l_caught, .int l_depth, .int l_calls, .ref l_kind, .ref l_list, .ref l_next, .ref l_turns, .ref l_limit, .ref l_other, .ref l_mark, .ref l_waits, .ref l_values, .ref l_locals])), (l_kind, .inl (cI, 150, .inl l_kind_v))]) [0, 1] rfl
      have hD9 := hD.sub (ws' := [(h0, .inr (8, [.ref l_heap, .int l_state, .int l_error, .int l_done, .int l_made, .int l_caught, .int l_depth, .int l_calls, .ref l_kind, .ref l_list, .ref l_next, .ref l_turns, .ref l_limit, .ref l_other, .ref l_mark, .ref l_waits, .ref l_values, .ref l_locals])), (l_kind, .inl (cI, 150, .inl l_kind_v))]) [0, 1] (by decide) rfl
      exact W.iret (v := (-1)) hx hb hr (fun t9 ht hW => ⟨⟨(-1), (), rfl, by rw [← hR0]; simp only [m_Line_callAt_L9_r, if_pos c_1], by rw [ht]; exact hP9, va_K.moved hW.alike hK, hD9⟩, hS.F ht⟩) hS.2.2 d_Line_callAt_40
    · refine lv_aload_n hx hb d_Line_callAt_13 rfl (lv_at hl 2 rfl) ?_
      refine va_get (D := (dC, dI)) (ci := 8) (v := .ref l_kind) (C := R_Line) (T := F_Line) (N := 18) hx hb htt iw_Line hown hK hP 0 rfl rfl 8 (by decide) (htt _ lk_Line_9) (fun _ h9 => h9) rfl d_Line_callAt_14 ?_
      refine lv_iload_n hx hb d_Line_callAt_17 rfl (lv_at hl 0 rfl) ?_
      have h_2 : vp_in i 150 := by rw [vp_in_iff]; simp only [Int32.lt_iff_toInt_lt, Int32.le_iff_toInt_le, Int32.reduceToInt] at c_1 hi ⊢; omega
      refine va_iald hx hb hK hP 1 0 rfl rfl h_2 d_Line_callAt_18 ?_
      refine lv_iconst (v := 1) hx hb d_Line_callAt_19 (by decide) ?_
      refine lv_icmp_ne (tgt := 33) hx hb d_Line_callAt_20 (by decide) (fun c_3 => ?_) (fun c_3 => ?_)
      · obtain ⟨x_4, ex_4⟩ : ∃ y : Int32, y = i + (-1) := ⟨_, rfl⟩
        refine lv_iinc (v := x_4) (lv' := [(3, .int x_4), (2, .int seen), (0, .ref h0), (1, .int k)]) hx hb d_Line_callAt_33 hl (k := 0) rfl (by rw [ex_4]; rfl) (by decide) rfl (fun ls hl => ?_)
        refine lv_goto (tgt := 9) hx hb d_Line_callAt_36 (by decide) ?_
        exact ih x_4 seen (by rw [ex_4, dn_step c_1]; omega) (by rw [ex_4, dn_step c_1]; have h8 := c_1; simp only [Int32.lt_iff_toInt_lt, Int32.le_iff_toInt_le, Int32.reduceToInt] at h8; omega) (by subst ex_4; rw [← hR0]; simp only [m_Line_callAt_L9_r, if_neg c_1, if_neg c_3]) _ _ _ (hP.sub [0, 1] rfl) (hD.sub [0, 1] (by decide) rfl) hS (lv_sub hl [0, 1, 2, 3] rfl)
      · refine lv_iload_n hx hb d_Line_callAt_23 rfl (lv_at hl 1 rfl) ?_
        refine lv_iload_n hx hb d_Line_callAt_24 rfl (lv_at hl 3 rfl) ?_
        refine lv_icmp_ne (tgt := 30) hx hb d_Line_callAt_25 (by decide) (fun c_5 => ?_) (fun c_5 => ?_)
        · obtain ⟨x_6, ex_6⟩ : ∃ y : Int32, y = seen + 1 := ⟨_, rfl⟩
          refine lv_iinc (v := x_6) (lv' := [(2, .int x_6), (3, .int i), (0, .ref h0), (1, .int k)]) hx hb d_Line_callAt_30 hl (k := 1) rfl (by rw [ex_6]; rfl) (by decide) rfl (fun ls hl => ?_)
          obtain ⟨x_7, ex_7⟩ : ∃ y : Int32, y = i + (-1) := ⟨_, rfl⟩
          refine lv_iinc (v := x_7) (lv' := [(3, .int x_7), (2, .int x_6), (0, .ref h0), (1, .int k)]) hx hb d_Line_callAt_33 hl (k := 1) rfl (by rw [ex_7]; rfl) (by decide) rfl (fun ls hl => ?_)
          refine lv_goto (tgt := 9) hx hb d_Line_callAt_36 (by decide) ?_
          exact ih x_7 x_6 (by rw [ex_7, dn_step c_1]; omega) (by rw [ex_7, dn_step c_1]; have h8 := c_1; simp only [Int32.lt_iff_toInt_lt, Int32.le_iff_toInt_le, Int32.reduceToInt] at h8; omega) (by subst ex_6; subst ex_7; rw [← hR0]; simp only [m_Line_callAt_L9_r, if_neg c_1, if_pos c_3, if_neg c_5]) _ _ _ (hP.sub [0, 1] rfl) (hD.sub [0, 1] (by decide) rfl) hS (lv_sub hl [0, 1, 2, 3] rfl)
        · refine lv_iload_n hx hb d_Line_callAt_28 rfl (lv_at hl 0 rfl) ?_
          have hP9 := hP.sub (ws' := [(h0, .inr (8, [.ref l_heap, .int l_state, .int l_error, .int l_done, .int l_made, .int l_caught, .int l_depth, .int l_calls, .ref l_kind, .ref l_list, .ref l_next, .ref l_turns, .ref l_limit, .ref l_other, .ref l_mark, .ref l_waits, .ref l_values, .ref l_locals])), (l_kind, .inl (cI, 150, .inl l_kind_v))]) [0, 1] rfl
          have hD9 := hD.sub (ws' := [(h0, .inr (8, [.ref l_heap, .int l_state, .int l_error, .int l_done, .int l_made, .int l_caught, .int l_depth, .int l_calls, .ref l_kind, .ref l_list, .ref l_next, .ref l_turns, .ref l_limit, .ref l_other, .ref l_mark, .ref l_waits, .ref l_values, .ref l_locals])), (l_kind, .inl (cI, 150, .inl l_kind_v))]) [0, 1] (by decide) rfl
          exact W.iret (v := i) hx hb hr (fun t9 ht hW => ⟨⟨i, (), rfl, by rw [← hR0]; simp only [m_Line_callAt_L9_r, if_neg c_1, if_pos c_3, if_pos c_5], by rw [ht]; exact hP9, va_K.moved hW.alike hK, hD9⟩, hS.F ht⟩) hS.2.2 d_Line_callAt_29

set_option maxHeartbeats 4000000 in
set_option maxRecDepth 100000 in
/-- the LEVEL of the k-th newest CALL -/
theorem c_Line_callAt (l : Launch) (dC : Nat → ClassId) (dI : Nat → Nat → Nat) (sz : Nat) (h0 : Nat) (l_heap : Nat) (l_state : Int32) (l_error : Int32) (l_done : Int32) (l_made : Int32) (l_caught : Int32) (l_depth : Int32) (l_calls : Int32) (l_kind : Nat) (l_list : Nat) (l_next : Nat) (l_turns : Nat) (l_limit : Nat) (l_other : Nat) (l_mark : Nat) (l_waits : Nat) (l_values : Nat) (l_locals : Nat) (l_kind_v : Nat → Int32) (cI : ClassId) (k : Int32) (hd : ¬ l_depth < 0) (hd2 : l_depth ≤ 150) : Met l y_Line_callAt w_Line_callAt ({ frames := 0, cells := 0, slots := 0, locals := 0 }) (va_Pc [.ref h0, .int k] (fun U => U.heap.size = sz ∧ va_P (dC, dI) classes [(h0, .inr (8, [.ref l_heap, .int l_state, .int l_error, .int l_done, .int l_made, .int l_caught, .int l_depth, .int l_calls, .ref l_kind, .ref l_list, .ref l_next, .ref l_turns, .ref l_limit, .ref l_other, .ref l_mark, .ref l_waits, .ref l_values, .ref l_locals])), (l_kind, .inl (cI, 150, .inl l_kind_v))] U.heap ∧ va_K (dC, dI) classes [(cI, .int)] U ∧ va_D (fun _ => True) [(h0, .inr (8, [.ref l_heap, .int l_state, .int l_error, .int l_done, .int l_made, .int l_caught, .int l_depth, .int l_calls, .ref l_kind, .ref l_list, .ref l_next, .ref l_turns, .ref l_limit, .ref l_other, .ref l_mark, .ref l_waits, .ref l_values, .ref l_locals])), (l_kind, .inl (cI, 150, .inl l_kind_v))])) (va_Qi (fun (r : Int32) (_ : Unit) => r = m_Line_callAt_r l_depth l_kind_v k) (fun (_ : Unit) t => va_P (dC, dI) classes [(h0, .inr (8, [.ref l_heap, .int l_state, .int l_error, .int l_done, .int l_made, .int l_caught, .int l_depth, .int l_calls, .ref l_kind, .ref l_list, .ref l_next, .ref l_turns, .ref l_limit, .ref l_other, .ref l_mark, .ref l_waits, .ref l_values, .ref l_locals])), (l_kind, .inl (cI, 150, .inl l_kind_v))] t.heap ∧ va_K (dC, dI) classes [(cI, .int)] t ∧ va_D (va_A [(h0, .inr (8, [.ref l_heap, .int l_state, .int l_error, .int l_done, .int l_made, .int l_caught, .int l_depth, .int l_calls, .ref l_kind, .ref l_list, .ref l_next, .ref l_turns, .ref l_limit, .ref l_other, .ref l_mark, .ref l_waits, .ref l_values, .ref l_locals])), (l_kind, .inl (cI, 150, .inl l_kind_v))] sz) [(h0, .inr (8, [.ref l_heap, .int l_state, .int l_error, .int l_done, .int l_made, .int l_caught, .int l_depth, .int l_calls, .ref l_kind, .ref l_list, .ref l_next, .ref l_turns, .ref l_limit, .ref l_other, .ref l_mark, .ref l_waits, .ref l_values, .ref l_locals])), (l_kind, .inl (cI, 150, .inl l_kind_v))]) (va_A [(h0, .inr (8, [.ref l_heap, .int l_state, .int l_error, .int l_done, .int l_made, .int l_caught, .int l_depth, .int l_calls, .ref l_kind, .ref l_list, .ref l_next, .ref l_turns, .ref l_limit, .ref l_other, .ref l_mark, .ref l_waits, .ref l_values, .ref l_locals])), (l_kind, .inl (cI, 150, .inl l_kind_v))] sz)) 0 0 (va_A [(h0, .inr (8, [.ref l_heap, .int l_state, .int l_error, .int l_done, .int l_made, .int l_caught, .int l_depth, .int l_calls, .ref l_kind, .ref l_list, .ref l_next, .ref l_turns, .ref l_limit, .ref l_other, .ref l_mark, .ref l_waits, .ref l_values, .ref l_locals])), (l_kind, .inl (cI, 150, .inl l_kind_v))] sz) := by
  refine Met.ofW (cc := b_Line_callAt) (maxL := 4) (ret := (some .int)) (by decide) rfl ?_
  intro p e s m args below meth c s₁ B hml hv
  obtain ⟨rfl, hsz, hP, hK, hD0⟩ := hv
  have hx := B.exec
  have hb := B.bytes
  have hr := B.returns
  have hts := atoms_spec (ws := w_Line_callAt) B.pre
  have htt : ∀ w ∈ tw_T, w.before _ s = true := fun w h => hts w (List.mem_cons_of_mem _ h)
  have hown : s.vm.findClass R_Line = some m.cls := findClass_of_methodNamed B.named
  have hlocks := B.notSynchronized
  subst hsz
  have hD := hD0.self (sz := s.heap.size)
  generalize hAe : va_A [(h0, .inr (8, [.ref l_heap, .int l_state, .int l_error, .int l_done, .int l_made, .int l_caught, .int l_depth, .int l_calls, .ref l_kind, .ref l_list, .ref l_next, .ref l_turns, .ref l_limit, .ref l_other, .ref l_mark, .ref l_waits, .ref l_values, .ref l_locals])), (l_kind, .inl (cI, 150, .inl l_kind_v))] s.heap.size = A at hD ⊢
  have hA : ∀ q : Nat, s.heap.size ≤ q → A q := fun q h => by rw [← hAe]; exact Or.inr h
  have hS : va_S A s.heap s.heap [] := va_S.rf
  have hP : va_P (dC, dI) classes [(h0, .inr (8, [.ref l_heap, .int l_state, .int l_error, .int l_done, .int l_made, .int l_caught, .int l_depth, .int l_calls, .ref l_kind, .ref l_list, .ref l_next, .ref l_turns, .ref l_limit, .ref l_other, .ref l_mark, .ref l_waits, .ref l_values, .ref l_locals])), (l_kind, .inl (cI, 150, .inl l_kind_v))] s.heap := hP
  have hl := lv_entry ([.ref h0, .int k]) (n := 4) (Nat.le_of_ble_eq_true rfl)
  rw [lg_entry_eq]
  generalize (lg_sl ([.ref h0, .int k]) ++ List.replicate (4 - (lg_sl ([.ref h0, .int k])).length) Slot.unset).toArray = ls at hl ⊢
  have hl : lv_has ls 4 [(0, .ref h0), (1, .int k)] := hl
  refine lv_iconst (v := 0) hx hb d_Line_callAt_0 (by decide) ?_
  refine lv_istore_n (lv' := [(2, .int 0), (0, .ref h0), (1, .int k)]) hx hb d_Line_callAt_1 rfl hl (by decide) rfl (fun ls hl => ?_)
  refine lv_aload_n hx hb d_Line_callAt_2 rfl (lv_at hl 1 rfl) ?_
  refine va_get (D := (dC, dI)) (ci := 8) (v := .int l_depth) (C := R_Line) (T := F_Line) (N := 18) hx hb htt iw_Line hown hK hP 0 rfl rfl 6 (by decide) (htt _ lk_Line_62) (fun _ h9 => h9) rfl d_Line_callAt_3 ?_
  refine lv_iconst (v := 1) hx hb d_Line_callAt_6 (by decide) ?_
  refine lv_isub hx hb d_Line_callAt_7 ?_
  refine lv_topi (fun x_1 ex_1 => ?_)
  refine lv_istore_n (lv' := [(3, .int x_1), (2, .int 0), (0, .ref h0), (1, .int k)]) hx hb d_Line_callAt_8 rfl hl (by decide) rfl (fun ls hl => ?_)
  exact lp_Line_callAt_9 l dC dI h0 l_heap l_state l_error l_done l_made l_caught l_depth l_calls l_kind l_list l_next l_turns l_limit l_other l_mark l_waits l_values l_locals l_kind_v cI k hd hd2 hx hb hml hown hts hK hA hr hlocks (m_Line_callAt_r l_depth l_kind_v k) ((x_1.toInt + 1).toNat + 1) x_1 0 (by rw [ex_1, sub1 hd]; simp only [Int32.lt_iff_toInt_lt, Int32.le_iff_toInt_le, Int32.reduceToInt] at hd2; omega) (by exact Nat.lt_succ_self _) (by subst ex_1; unfold m_Line_callAt_r; rfl) _ _ _ (hP.sub [0, 1] rfl) (hD.sub [0, 1] (by decide) rfl) hS (lv_sub hl [0, 1, 2, 3] rfl)

def m_Line_newest_L7_r (l_depth : Int32) (l_kind_v : Nat → Int32) (a : Int32) (b : Int32) : Nat → Int32 → Int32
  | 0, _ => 0
  | n + 1, i => if i < ((0 : Int32)) then (-1) else if ((l_kind_v i.toNatClampNeg)) = ((1 : Int32)) then (-1) else if ((l_kind_v i.toNatClampNeg)) = a then i else if ((l_kind_v i.toNatClampNeg)) = b then i else m_Line_newest_L7_r l_depth l_kind_v a b n ((i + (-1)))
def m_Line_newest_r (l_depth : Int32) (l_kind_v : Nat → Int32) (a : Int32) (b : Int32) : Int32 := m_Line_newest_L7_r l_depth l_kind_v a b ((((l_depth - 1)).toInt + 1).toNat + 1) ((l_depth - 1))
set_option maxHeartbeats 4000000 in
set_option maxRecDepth 100000 in
theorem lp_Line_newest_7 (l : Launch) (dC : Nat → ClassId) (dI : Nat → Nat → Nat) (h0 : Nat) (l_heap : Nat) (l_state : Int32) (l_error : Int32) (l_done : Int32) (l_made : Int32) (l_caught : Int32) (l_depth : Int32) (l_calls : Int32) (l_kind : Nat) (l_list : Nat) (l_next : Nat) (l_turns : Nat) (l_limit : Nat) (l_other : Nat) (l_mark : Nat) (l_waits : Nat) (l_values : Nat) (l_locals : Nat) (l_kind_v : Nat → Int32) (cI : ClassId) (a : Int32) (b : Int32) (hd : ¬ l_depth < 0) (hd2 : l_depth ≤ 150) {p : Program} {e : Env} {s : State} {m : MethodId} {below : List Frame} {meth : Method} {c : Code} {A : Nat → Prop} (hx : p.tables.exec = Jvm.exec) (hb : c.code = b_Line_newest) (hml : c.maxLocals = 4) (hown : s.vm.findClass R_Line = some m.cls) (hts : ∀ w ∈ w_Line_newest, w.before ([.ref h0, .int a, .int b] : List Value).toArray s = true) (hK : va_K (dC, dI) classes [(cI, .int)] s) (hA : ∀ q : Nat, s.heap.size ≤ q → A q) (hr : meth.sig.returnType = (some .int)) (hlocks : meth.locks = false) (RV0 : Int32) : ∀ (n : Nat) (i : Int32), i.toInt < 150 → (i.toInt + 1).toNat < n → m_Line_newest_L7_r l_depth l_kind_v a b n i = RV0 → ∀ (H : Heap) (locs : List Loc) (ls : Array Slot), va_P (dC, dI) classes [(h0, .inr (8, [.ref l_heap, .int l_state, .int l_error, .int l_done, .int l_made, .int l_caught, .int l_depth, .int l_calls, .ref l_kind, .ref l_list, .ref l_next, .ref l_turns, .ref l_limit, .ref l_other, .ref l_mark, .ref l_waits, .ref l_values, .ref l_locals])), (l_kind, .inl (cI, 150, .inl l_kind_v))] H → va_D A [(h0, .inr (8, [.ref l_heap, .int l_state, .int l_error, .int l_done, .int l_made, .int l_caught, .int l_depth, .int l_calls, .ref l_kind, .ref l_list, .ref l_next, .ref l_turns, .ref l_limit, .ref l_other, .ref l_mark, .ref l_waits, .ref l_values, .ref l_locals])), (l_kind, .inl (cI, 150, .inl l_kind_v))] → va_S A s.heap H locs → lv_has ls 4 [(3, .int i), (0, .ref h0), (1, .int a), (2, .int b)] → W p l e ({ frames := 0, cells := 0, slots := 0, locals := 0 } : Room) s m ([.ref h0, .int a, .int b] : List Value).toArray below meth c H locs 0 0 (MQ below (va_Qi (fun (r : Int32) (_ : Unit) => r = RV0) (fun (_ : Unit) t => va_P (dC, dI) classes [(h0, .inr (8, [.ref l_heap, .int l_state, .int l_error, .int l_done, .int l_made, .int l_caught, .int l_depth, .int l_calls, .ref l_kind, .ref l_list, .ref l_next, .ref l_turns, .ref l_limit, .ref l_other, .ref l_mark, .ref l_waits, .ref l_values, .ref l_locals])), (l_kind, .inl (cI, 150, .inl l_kind_v))] t.heap ∧ va_K (dC, dI) classes [(cI, .int)] t ∧ va_D A [(h0, .inr (8, [.ref l_heap, .int l_state, .int l_error, .int l_done, .int l_made, .int l_caught, .int l_depth, .int l_calls, .ref l_kind, .ref l_list, .ref l_next, .ref l_turns, .ref l_limit, .ref l_other, .ref l_mark, .ref l_waits, .ref l_values, .ref l_locals])), (l_kind, .inl (cI, 150, .inl l_kind_v))]) A) ([.ref h0, .int a, .int b] : List Value).toArray s 0 0 A) (F0 m 7 ls []) := by
  have htt : ∀ w ∈ tw_T, w.before _ s = true := fun w h => hts w (List.mem_cons_of_mem _ h)
  intro n
  induction n with
  | zero =>
    intro i hi hmu
    exact absurd hmu (Nat.not_lt_zero _)
  | succ n ih =>
    intro i hi hmu hR0 H locs ls hP hD hS hl
    refine lv_iload_n hx hb d_Line_newest_7 rfl (lv_at hl 0 rfl) ?_
    refine lv_if_lt (tgt := 49) hx hb d_Line_newest_8 (by decide) (fun c_1 => ?_) (fun c_1 => ?_)
    · refine lv_iconst (v := -1) hx hb d_Line_newest_49 (by decide) ?_
      have hP9 := hP.sub (ws' := [(h0, .inr (8, [.ref l_heap, .int l_state, .int l_error, .int l_done, .int l_made, .int l_caught, .int l_depth, .int l_calls, .ref l_kind, .ref l_list, .ref l_next, .ref l_turns, .ref l_limit, .ref l_other, .ref l_mark, .ref l_waits, .ref l_values, .ref l_locals])), (l_kind, .inl (cI, 150, .inl l_kind_v))]) [0, 1] rfl
      have hD9 := hD.sub (ws' := [(h0, .inr (8, [.ref l_heap, .int l_state, .int l_error, .int l_done, .int l_made, .int l_caught, .int l_depth, .int l_calls, .ref l_kind, .ref l_list, .ref l_next, .ref l_turns, .ref l_limit, .ref l_other, .ref l_mark, .ref l_waits, .ref l_values, .ref l_locals])), (l_kind, .inl (cI, 150, .inl l_kind_v))]) [0, 1] (by decide) rfl
      exact W.iret (v := (-1)) hx hb hr (fun t9 ht hW => ⟨⟨(-1), (), rfl, by rw [← hR0]; simp only [m_Line_newest_L7_r, if_pos c_1], by rw [ht]; exact hP9, va_K.moved hW.alike hK, hD9⟩, hS.F ht⟩) hS.2.2 d_Line_newest_50
    · refine lv_aload_n hx hb d_Line_newest_11 rfl (lv_at hl 1 rfl) ?_
      refine va_get (D := (dC, dI)) (ci := 8) (v := .ref l_kind) (C := R_Line) (T := F_Line) (N := 18) hx hb htt iw_Line hown hK hP 0 rfl rfl 8 (by decide) (htt _ lk_Line_9) (fun _ h9 => h9) rfl d_Line_newest_12 ?_
      refine lv_iload_n hx hb d_Line_newest_15 rfl (lv_at hl 0 rfl) ?_
      have h_2 : vp_in i 150 := by rw [vp_in_iff]; simp only [Int32.lt_iff_toInt_lt, Int32.le_iff_toInt_le, Int32.reduceToInt] at c_1 hi ⊢; omega
      refine va_iald hx hb hK hP 1 0 rfl rfl h_2 d_Line_newest_16 ?_
      refine lv_iconst (v := 1) hx hb d_Line_newest_17 (by decide) ?_
      refine lv_icmp_eq (tgt := 49) hx hb d_Line_newest_18 (by decide) (fun c_3 => ?_) (fun c_3 => ?_)
      · refine lv_iconst (v := -1) hx hb d_Line_newest_49 (by decide) ?_
        have hP9 := hP.sub (ws' := [(h0, .inr (8, [.ref l_heap, .int l_state, .int l_error, .int l_done, .int l_made, .int l_caught, .int l_depth, .int l_calls, .ref l_kind, .ref l_list, .ref l_next, .ref l_turns, .ref l_limit, .ref l_other, .ref l_mark, .ref l_waits, .ref l_values, .ref l_locals])), (l_kind, .inl (cI, 150, .inl l_kind_v))]) [0, 1] rfl
        have hD9 := hD.sub (ws' := [(h0, .inr (8, [.ref l_heap, .int l_state, .int l_error, .int l_done, .int l_made, .int l_caught, .int l_depth, .int l_calls, .ref l_kind, .ref l_list, .ref l_next, .ref l_turns, .ref l_limit, .ref l_other, .ref l_mark, .ref l_waits, .ref l_values, .ref l_locals])), (l_kind, .inl (cI, 150, .inl l_kind_v))]) [0, 1] (by decide) rfl
        exact W.iret (v := (-1)) hx hb hr (fun t9 ht hW => ⟨⟨(-1), (), rfl, by rw [← hR0]; simp only [m_Line_newest_L7_r, if_neg c_1, if_pos c_3], by rw [ht]; exact hP9, va_K.moved hW.alike hK, hD9⟩, hS.F ht⟩) hS.2.2 d_Line_newest_50
      · refine lv_aload_n hx hb d_Line_newest_21 rfl (lv_at hl 1 rfl) ?_
        refine va_get (D := (dC, dI)) (ci := 8) (v := .ref l_kind) (C := R_Line) (T := F_Line) (N := 18) hx hb htt iw_Line hown hK hP 0 rfl rfl 8 (by decide) (htt _ lk_Line_9) (fun _ h9 => h9) rfl d_Line_newest_22 ?_
        refine lv_iload_n hx hb d_Line_newest_25 rfl (lv_at hl 0 rfl) ?_
        have h_4 : vp_in i 150 := by rw [vp_in_iff]; simp only [Int32.lt_iff_toInt_lt, Int32.le_iff_toInt_le, Int32.reduceToInt] at c_1 c_3 hi ⊢; omega
        refine va_iald hx hb hK hP 1 0 rfl rfl h_4 d_Line_newest_26 ?_
        refine lv_iload_n hx hb d_Line_newest_27 rfl (lv_at hl 2 rfl) ?_
        refine lv_icmp_eq (tgt := 41) hx hb d_Line_newest_28 (by decide) (fun c_5 => ?_) (fun c_5 => ?_)
        · refine lv_iload_n hx hb d_Line_newest_41 rfl (lv_at hl 0 rfl) ?_
          have hP9 := hP.sub (ws' := [(h0, .inr (8, [.ref l_heap, .int l_state, .int l_error, .int l_done, .int l_made, .int l_caught, .int l_depth, .int l_calls, .ref l_kind, .ref l_list, .ref l_next, .ref l_turns, .ref l_limit, .ref l_other, .ref l_mark, .ref l_waits, .ref l_values, .ref l_locals])), (l_kind, .inl (cI, 150, .inl l_kind_v))]) [0, 1] rfl
          have hD9 := hD.sub (ws' := [(h0, .inr (8, [.ref l_heap, .int l_state, .int l_error, .int l_done, .int l_made, .int l_caught, .int l_depth, .int l_calls, .ref l_kind, .ref l_list, .ref l_next, .ref l_turns, .ref l_limit, .ref l_other, .ref l_mark, .ref l_waits, .ref l_values, .ref l_locals])), (l_kind, .inl (cI, 150, .inl l_kind_v))]) [0, 1] (by decide) rfl
          exact W.iret (v := i) hx hb hr (fun t9 ht hW => ⟨⟨i, (), rfl, by rw [← hR0]; simp only [m_Line_newest_L7_r, if_neg c_1, if_neg c_3, if_pos c_5], by rw [ht]; exact hP9, va_K.moved hW.alike hK, hD9⟩, hS.F ht⟩) hS.2.2 d_Line_newest_42
        · refine lv_aload_n hx hb d_Line_newest_31 rfl (lv_at hl 1 rfl) ?_
          refine va_get (D := (dC, dI)) (ci := 8) (v := .ref l_kind) (C := R_Line) (T := F_Line) (N := 18) hx hb htt iw_Line hown hK hP 0 rfl rfl 8 (by decide) (htt _ lk_Line_9) (fun _ h9 => h9) rfl d_Line_newest_32 ?_
          refine lv_iload_n hx hb d_Line_newest_35 rfl (lv_at hl 0 rfl) ?_
          have h_6 : vp_in i 150 := by rw [vp_in_iff]; simp only [Int32.lt_iff_toInt_lt, Int32.le_iff_toInt_le, Int32.reduceToInt] at c_1 c_3 c_5 hi ⊢; omega
          refine va_iald hx hb hK hP 1 0 rfl rfl h_6 d_Line_newest_36 ?_
          refine lv_iload_n hx hb d_Line_newest_37 rfl (lv_at hl 3 rfl) ?_
          refine lv_icmp_ne (tgt := 43) hx hb d_Line_newest_38 (by decide) (fun c_7 => ?_) (fun c_7 => ?_)
          · obtain ⟨x_8, ex_8⟩ : ∃ y : Int32, y = i + (-1) := ⟨_, rfl⟩
            refine lv_iinc (v := x_8) (lv' := [(3, .int x_8), (0, .ref h0), (1, .int a), (2, .int b)]) hx hb d_Line_newest_43 hl (k := 0) rfl (by rw [ex_8]; rfl) (by decide) rfl (fun ls hl => ?_)
            refine lv_goto (tgt := 7) hx hb d_Line_newest_46 (by decide) ?_
            exact ih x_8 (by rw [ex_8, dn_step c_1]; omega) (by rw [ex_8, dn_step c_1]; have h8 := c_1; simp only [Int32.lt_iff_toInt_lt, Int32.le_iff_toInt_le, Int32.reduceToInt] at h8; omega) (by subst ex_8; rw [← hR0]; simp only [m_Line_newest_L7_r, if_neg c_1, if_neg c_3, if_neg c_5, if_neg c_7]) _ _ _ (hP.sub [0, 1] rfl) (hD.sub [0, 1] (by decide) rfl) hS (lv_sub hl [0, 1, 2, 3] rfl)
          · refine lv_iload_n hx hb d_Line_newest_41 rfl (lv_at hl 0 rfl) ?_
            have hP9 := hP.sub (ws' := [(h0, .inr (8, [.ref l_heap, .int l_state, .int l_error, .int l_done, .int l_made, .int l_caught, .int l_depth, .int l_calls, .ref l_kind, .ref l_list, .ref l_next, .ref l_turns, .ref l_limit, .ref l_other, .ref l_mark, .ref l_waits, .ref l_values, .ref l_locals])), (l_kind, .inl (cI, 150, .inl l_kind_v))]) [0, 1] rfl
            have hD9 := hD.sub (ws' := [(h0, .inr (8, [.ref l_heap, .int l_state, .int l_error, .int l_done, .int l_made, .int l_caught, .int l_depth, .int l_calls, .ref l_kind, .ref l_list, .ref l_next, .ref l_turns, .ref l_limit, .ref l_other, .ref l_mark, .ref l_waits, .ref l_values, .ref l_locals])), (l_kind, .inl (cI, 150, .inl l_kind_v))]) [0, 1] (by decide) rfl
            exact W.iret (v := i) hx hb hr (fun t9 ht hW => ⟨⟨i, (), rfl, by rw [← hR0]; simp only [m_Line_newest_L7_r, if_neg c_1, if_neg c_3, if_neg c_5, if_pos c_7], by rw [ht]; exact hP9, va_K.moved hW.alike hK, hD9⟩, hS.F ht⟩) hS.2.2 d_Line_newest_42

set_option maxHeartbeats 4000000 in
set_option maxRecDepth 100000 in
/-- the newest LEVEL of two kinds in the newest CALL -/
theorem c_Line_newest (l : Launch) (dC : Nat → ClassId) (dI : Nat → Nat → Nat) (sz : Nat) (h0 : Nat) (l_heap : Nat) (l_state : Int32) (l_error : Int32) (l_done : Int32) (l_made : Int32) (l_caught : Int32) (l_depth : Int32) (l_calls : Int32) (l_kind : Nat) (l_list : Nat) (l_next : Nat) (l_turns : Nat) (l_limit : Nat) (l_other : Nat) (l_mark : Nat) (l_waits : Nat) (l_values : Nat) (l_locals : Nat) (l_kind_v : Nat → Int32) (cI : ClassId) (a : Int32) (b : Int32) (hd : ¬ l_depth < 0) (hd2 : l_depth ≤ 150) : Met l y_Line_newest w_Line_newest ({ frames := 0, cells := 0, slots := 0, locals := 0 }) (va_Pc [.ref h0, .int a, .int b] (fun U => U.heap.size = sz ∧ va_P (dC, dI) classes [(h0, .inr (8, [.ref l_heap, .int l_state, .int l_error, .int l_done, .int l_made, .int l_caught, .int l_depth, .int l_calls, .ref l_kind, .ref l_list, .ref l_next, .ref l_turns, .ref l_limit, .ref l_other, .ref l_mark, .ref l_waits, .ref l_values, .ref l_locals])), (l_kind, .inl (cI, 150, .inl l_kind_v))] U.heap ∧ va_K (dC, dI) classes [(cI, .int)] U ∧ va_D (fun _ => True) [(h0, .inr (8, [.ref l_heap, .int l_state, .int l_error, .int l_done, .int l_made, .int l_caught, .int l_depth, .int l_calls, .ref l_kind, .ref l_list, .ref l_next, .ref l_turns, .ref l_limit, .ref l_other, .ref l_mark, .ref l_waits, .ref l_values, .ref l_locals])), (l_kind, .inl (cI, 150, .inl l_kind_v))])) (va_Qi (fun (r : Int32) (_ : Unit) => r = m_Line_newest_r l_depth l_kind_v a b) (fun (_ : Unit) t => va_P (dC, dI) classes [(h0, .inr (8, [.ref l_heap, .int l_state, .int l_error, .int l_done, .int l_made, .int l_caught, .int l_depth, .int l_calls, .ref l_kind, .ref l_list, .ref l_next, .ref l_turns, .ref l_limit, .ref l_other, .ref l_mark, .ref l_waits, .ref l_values, .ref l_locals])), (l_kind, .inl (cI, 150, .inl l_kind_v))] t.heap ∧ va_K (dC, dI) classes [(cI, .int)] t ∧ va_D (va_A [(h0, .inr (8, [.ref l_heap, .int l_state, .int l_error, .int l_done, .int l_made, .int l_caught, .int l_depth, .int l_calls, .ref l_kind, .ref l_list, .ref l_next, .ref l_turns, .ref l_limit, .ref l_other, .ref l_mark, .ref l_waits, .ref l_values, .ref l_locals])), (l_kind, .inl (cI, 150, .inl l_kind_v))] sz) [(h0, .inr (8, [.ref l_heap, .int l_state, .int l_error, .int l_done, .int l_made, .int l_caught, .int l_depth, .int l_calls, .ref l_kind, .ref l_list, .ref l_next, .ref l_turns, .ref l_limit, .ref l_other, .ref l_mark, .ref l_waits, .ref l_values, .ref l_locals])), (l_kind, .inl (cI, 150, .inl l_kind_v))]) (va_A [(h0, .inr (8, [.ref l_heap, .int l_state, .int l_error, .int l_done, .int l_made, .int l_caught, .int l_depth, .int l_calls, .ref l_kind, .ref l_list, .ref l_next, .ref l_turns, .ref l_limit, .ref l_other, .ref l_mark, .ref l_waits, .ref l_values, .ref l_locals])), (l_kind, .inl (cI, 150, .inl l_kind_v))] sz)) 0 0 (va_A [(h0, .inr (8, [.ref l_heap, .int l_state, .int l_error, .int l_done, .int l_made, .int l_caught, .int l_depth, .int l_calls, .ref l_kind, .ref l_list, .ref l_next, .ref l_turns, .ref l_limit, .ref l_other, .ref l_mark, .ref l_waits, .ref l_values, .ref l_locals])), (l_kind, .inl (cI, 150, .inl l_kind_v))] sz) := by
  refine Met.ofW (cc := b_Line_newest) (maxL := 4) (ret := (some .int)) (by decide) rfl ?_
  intro p e s m args below meth c s₁ B hml hv
  obtain ⟨rfl, hsz, hP, hK, hD0⟩ := hv
  have hx := B.exec
  have hb := B.bytes
  have hr := B.returns
  have hts := atoms_spec (ws := w_Line_newest) B.pre
  have htt : ∀ w ∈ tw_T, w.before _ s = true := fun w h => hts w (List.mem_cons_of_mem _ h)
  have hown : s.vm.findClass R_Line = some m.cls := findClass_of_methodNamed B.named
  have hlocks := B.notSynchronized
  subst hsz
  have hD := hD0.self (sz := s.heap.size)
  generalize hAe : va_A [(h0, .inr (8, [.ref l_heap, .int l_state, .int l_error, .int l_done, .int l_made, .int l_caught, .int l_depth, .int l_calls, .ref l_kind, .ref l_list, .ref l_next, .ref l_turns, .ref l_limit, .ref l_other, .ref l_mark, .ref l_waits, .ref l_values, .ref l_locals])), (l_kind, .inl (cI, 150, .inl l_kind_v))] s.heap.size = A at hD ⊢
  have hA : ∀ q : Nat, s.heap.size ≤ q → A q := fun q h => by rw [← hAe]; exact Or.inr h
  have hS : va_S A s.heap s.heap [] := va_S.rf
  have hP : va_P (dC, dI) classes [(h0, .inr (8, [.ref l_heap, .int l_state, .int l_error, .int l_done, .int l_made, .int l_caught, .int l_depth, .int l_calls, .ref l_kind, .ref l_list, .ref l_next, .ref l_turns, .ref l_limit, .ref l_other, .ref l_mark, .ref l_waits, .ref l_values, .ref l_locals])), (l_kind, .inl (cI, 150, .inl l_kind_v))] s.heap := hP
  have hl := lv_entry ([.ref h0, .int a, .int b]) (n := 4) (Nat.le_of_ble_eq_true rfl)
  rw [lg_entry_eq]
  generalize (lg_sl ([.ref h0, .int a, .int b]) ++ List.replicate (4 - (lg_sl ([.ref h0, .int a, .int b])).length) Slot.unset).toArray = ls at hl ⊢
  have hl : lv_has ls 4 [(0, .ref h0), (1, .int a), (2, .int b)] := hl
  refine lv_aload_n hx hb d_Line_newest_0 rfl (lv_at hl 0 rfl) ?_
  refine va_get (D := (dC, dI)) (ci := 8) (v := .int l_depth) (C := R_Line) (T := F_Line) (N := 18) hx hb htt iw_Line hown hK hP 0 rfl rfl 6 (by decide) (htt _ lk_Line_62) (fun _ h9 => h9) rfl d_Line_newest_1 ?_
  refine lv_iconst (v := 1) hx hb d_Line_newest_4 (by decide) ?_
  refine lv_isub hx hb d_Line_newest_5 ?_
  refine lv_topi (fun x_1 ex_1 => ?_)
  refine lv_istore_n (lv' := [(3, .int x_1), (0, .ref h0), (1, .int a), (2, .int b)]) hx hb d_Line_newest_6 rfl hl (by decide) rfl (fun ls hl => ?_)
  exact lp_Line_newest_7 l dC dI h0 l_heap l_state l_error l_done l_made l_caught l_depth l_calls l_kind l_list l_next l_turns l_limit l_other l_mark l_waits l_values l_locals l_kind_v cI a b hd hd2 hx hb hml hown hts hK hA hr hlocks (m_Line_newest_r l_depth l_kind_v a b) ((x_1.toInt + 1).toNat + 1) x_1 (by rw [ex_1, sub1 hd]; simp only [Int32.lt_iff_toInt_lt, Int32.le_iff_toInt_le, Int32.reduceToInt] at hd2; omega) (by exact Nat.lt_succ_self _) (by subst ex_1; unfold m_Line_newest_r; rfl) _ _ _ (hP.sub [0, 1] rfl) (hD.sub [0, 1] (by decide) rfl) hS (lv_sub hl [0, 1, 2, 3] rfl)

def m_Names_countValues_L9_r (n_localValues_v : Nat → Int32) (a : Int32) (b : Int32) : Nat → Int32 → Int32 → Int32
  | 0, _, _ => 0
  | n + 1, i, k => if b ≤ i then k else if ((1800 : Int32)) ≤ i then k else if ((n_localValues_v i.toNatClampNeg)) = ((-2147483648 : Int32)) then m_Names_countValues_L9_r n_localValues_v a b n ((i + 1)) k else m_Names_countValues_L9_r n_localValues_v a b n ((i + 1)) ((k + 1))
def m_Names_countValues_r (n_localValues_v : Nat → Int32) (a : Int32) (b : Int32) : Int32 := m_Names_countValues_L9_r n_localValues_v a b ((1800 - ((m_Math_max_r a 0)).toInt).toNat + 1) ((m_Math_max_r a 0)) 0
set_option maxHeartbeats 4000000 in
set_option maxRecDepth 100000 in
theorem lp_Names_countValues_9 (l : Launch) (dC : Nat → ClassId) (dI : Nat → Nat → Nat) (h0 : Nat) (n_heap : Nat) (n_globalNames : Nat) (n_globalValues : Nat) (n_globals : Int32) (n_localNames : Nat) (n_localValues : Nat) (n_locals : Int32) (n_keptValues : Nat) (n_keptGlobals : Int32) (n_localValues_v : Nat → Int32) (cI : ClassId) (a : Int32) (b : Int32)  {p : Program} {e : Env} {s : State} {m : MethodId} {below : List Frame} {meth : Method} {c : Code} {A : Nat → Prop} (hx : p.tables.exec = Jvm.exec) (hb : c.code = b_Names_countValues) (hml : c.maxLocals = 5) (hown : s.vm.findClass R_Names = some m.cls) (hts : ∀ w ∈ w_Names_countValues, w.before ([.ref h0, .int a, .int b] : List Value).toArray s = true) (hK : va_K (dC, dI) classes [(cI, .int)] s) (hA : ∀ q : Nat, s.heap.size ≤ q → A q) (hr : meth.sig.returnType = (some .int)) (hlocks : meth.locks = false) (RV0 : Int32) : ∀ (n : Nat) (i : Int32) (k : Int32), 0 ≤ i.toInt → (1800 - i.toInt).toNat < n → m_Names_countValues_L9_r n_localValues_v a b n i k = RV0 → ∀ (H : Heap) (locs : List Loc) (ls : Array Slot), va_P (dC, dI) classes [(h0, .inr (3, [.ref n_heap, .ref n_globalNames, .ref n_globalValues, .int n_globals, .ref n_localNames, .ref n_localValues, .int n_locals, .ref n_keptValues, .int n_keptGlobals])), (n_localValues, .inl (cI, 1800, .inl n_localValues_v))] H → va_D A [(h0, .inr (3, [.ref n_heap, .ref n_globalNames, .ref n_globalValues, .int n_globals, .ref n_localNames, .ref n_localValues, .int n_locals, .ref n_keptValues, .int n_keptGlobals])), (n_localValues, .inl (cI, 1800, .inl n_localValues_v))] → va_S A s.heap H locs → lv_has ls 5 [(4, .int i), (3, .int k), (0, .ref h0), (1, .int a), (2, .int b)] → W p l e ({ frames := 1, cells := 0, slots := 0, locals := 21 } : Room) s m ([.ref h0, .int a, .int b] : List Value).toArray below meth c H locs 0 0 (MQ below (va_Qi (fun (r : Int32) (_ : Unit) => r = RV0) (fun (_ : Unit) t => va_P (dC, dI) classes [(h0, .inr (3, [.ref n_heap, .ref n_globalNames, .ref n_globalValues, .int n_globals, .ref n_localNames, .ref n_localValues, .int n_locals, .ref n_keptValues, .int n_keptGlobals])), (n_localValues, .inl (cI, 1800, .inl n_localValues_v))] t.heap ∧ va_K (dC, dI) classes [(cI, .int)] t ∧ va_D A [(h0, .inr (3, [.ref n_heap, .ref n_globalNames, .ref n_globalValues, .int n_globals, .ref n_localNames, .ref n_localValues, .int n_locals, .ref n_keptValues, .int n_keptGlobals])), (n_localValues, .inl (cI, 1800, .inl n_localValues_v))]) A) ([.ref h0, .int a, .int b] : List Value).toArray s 0 0 A) (F0 m 9 ls []) := by
  have htt : ∀ w ∈ tw_T, w.before _ s = true := fun w h => hts w (List.mem_cons_of_mem _ h)
  intro n
  induction n with
  | zero =>
    intro i k hi hmu
    exact absurd hmu (Nat.not_lt_zero _)
  | succ n ih =>
    intro i k hi hmu hR0 H locs ls hP hD hS hl
    refine lv_iload hx hb d_Names_countValues_9 (lv_at hl 0 rfl) ?_
    refine lv_iload_n hx hb d_Names_countValues_11 rfl (lv_at hl 4 rfl) ?_
    refine lv_icmp_ge (tgt := 44) hx hb d_Names_countValues_12 (by decide) (fun c_1 => ?_) (fun c_1 => ?_)
    · refine lv_iload_n hx hb d_Names_countValues_44 rfl (lv_at hl 1 rfl) ?_
      have hP9 := hP.sub (ws' := [(h0, .inr (3, [.ref n_heap, .ref n_globalNames, .ref n_globalValues, .int n_globals, .ref n_localNames, .ref n_localValues, .int n_locals, .ref n_keptValues, .int n_keptGlobals])), (n_localValues, .inl (cI, 1800, .inl n_localValues_v))]) [0, 1] rfl
      have hD9 := hD.sub (ws' := [(h0, .inr (3, [.ref n_heap, .ref n_globalNames, .ref n_globalValues, .int n_globals, .ref n_localNames, .ref n_localValues, .int n_locals, .ref n_keptValues, .int n_keptGlobals])), (n_localValues, .inl (cI, 1800, .inl n_localValues_v))]) [0, 1] (by decide) rfl
      exact W.iret (v := k) hx hb hr (fun t9 ht hW => ⟨⟨k, (), rfl, by rw [← hR0]; simp only [m_Names_countValues_L9_r, if_pos c_1], by rw [ht]; exact hP9, va_K.moved hW.alike hK, hD9⟩, hS.F ht⟩) hS.2.2 d_Names_countValues_45
    · refine lv_iload hx hb d_Names_countValues_15 (lv_at hl 0 rfl) ?_
      refine lv_sipush (v := 1800) hx hb d_Names_countValues_17 (by decide) ?_
      refine lv_icmp_ge (tgt := 44) hx hb d_Names_countValues_20 (by decide) (fun c_2 => ?_) (fun c_2 => ?_)
      · refine lv_iload_n hx hb d_Names_countValues_44 rfl (lv_at hl 1 rfl) ?_
        have hP9 := hP.sub (ws' := [(h0, .inr (3, [.ref n_heap, .ref n_globalNames, .ref n_globalValues, .int n_globals, .ref n_localNames, .ref n_localValues, .int n_locals, .ref n_keptValues, .int n_keptGlobals])), (n_localValues, .inl (cI, 1800, .inl n_localValues_v))]) [0, 1] rfl
        have hD9 := hD.sub (ws' := [(h0, .inr (3, [.ref n_heap, .ref n_globalNames, .ref n_globalValues, .int n_globals, .ref n_localNames, .ref n_localValues, .int n_locals, .ref n_keptValues, .int n_keptGlobals])), (n_localValues, .inl (cI, 1800, .inl n_localValues_v))]) [0, 1] (by decide) rfl
        exact W.iret (v := k) hx hb hr (fun t9 ht hW => ⟨⟨k, (), rfl, by rw [← hR0]; simp only [m_Names_countValues_L9_r, if_neg c_1, if_pos c_2], by rw [ht]; exact hP9, va_K.moved hW.alike hK, hD9⟩, hS.F ht⟩) hS.2.2 d_Names_countValues_45
      · refine lv_aload_n hx hb d_Names_countValues_23 rfl (lv_at hl 2 rfl) ?_
        refine va_get (D := (dC, dI)) (ci := 3) (v := .ref n_localValues) (C := R_Names) (T := F_Names) (N := 9) hx hb htt iw_Names hown hK hP 0 rfl rfl 5 (by decide) (htt _ lk_Names_21) (fun _ h9 => h9) rfl d_Names_countValues_24 ?_
        refine lv_iload hx hb d_Names_countValues_27 (lv_at hl 0 rfl) ?_
        have h_3 : vp_in i 1800 := by rw [vp_in_iff]; simp only [Int32.lt_iff_toInt_lt, Int32.le_iff_toInt_le, Int32.reduceToInt] at c_1 c_2 hi ⊢; omega
        refine va_iald hx hb hK hP 1 0 rfl rfl h_3 d_Names_countValues_29 ?_
        refine lv_ldc (v := (-2147483648)) hx hb hown (htt _ lk_Names_48) d_Names_countValues_30 ?_
        refine lv_icmp_eq (tgt := 38) hx hb d_Names_countValues_32 (by decide) (fun c_4 => ?_) (fun c_4 => ?_)
        · obtain ⟨x_5, ex_5⟩ : ∃ y : Int32, y = i + 1 := ⟨_, rfl⟩
          refine lv_iinc (v := x_5) (lv' := [(4, .int x_5), (3, .int k), (0, .ref h0), (1, .int a), (2, .int b)]) hx hb d_Names_countValues_38 hl (k := 0) rfl (by rw [ex_5]; rfl) (by decide) rfl (fun ls hl => ?_)
          refine lv_goto (tgt := 9) hx hb d_Names_countValues_41 (by decide) ?_
          exact ih x_5 k (by have h8 := c_2; simp only [Int32.lt_iff_toInt_lt, Int32.le_iff_toInt_le, Int32.reduceToInt] at h8; rw [ex_5, up_step (by omega)]; omega) (by have h8 := c_2; simp only [Int32.lt_iff_toInt_lt, Int32.le_iff_toInt_le, Int32.reduceToInt] at h8; rw [ex_5, up_step (by omega)]; omega) (by subst ex_5; rw [← hR0]; simp only [m_Names_countValues_L9_r, if_neg c_1, if_neg c_2, if_pos c_4]) _ _ _ (hP.sub [0, 1] rfl) (hD.sub [0, 1] (by decide) rfl) hS (lv_sub hl [0, 1, 2, 3, 4] rfl)
        · obtain ⟨x_6, ex_6⟩ : ∃ y : Int32, y = k + 1 := ⟨_, rfl⟩
          refine lv_iinc (v := x_6) (lv' := [(3, .int x_6), (4, .int i), (0, .ref h0), (1, .int a), (2, .int b)]) hx hb d_Names_countValues_35 hl (k := 1) rfl (by rw [ex_6]; rfl) (by decide) rfl (fun ls hl => ?_)
          obtain ⟨x_7, ex_7⟩ : ∃ y : Int32, y = i + 1 := ⟨_, rfl⟩
          refine lv_iinc (v := x_7) (lv' := [(4, .int x_7), (3, .int x_6), (0, .ref h0), (1, .int a), (2, .int b)]) hx hb d_Names_countValues_38 hl (k := 1) rfl (by rw [ex_7]; rfl) (by decide) rfl (fun ls hl => ?_)
          refine lv_goto (tgt := 9) hx hb d_Names_countValues_41 (by decide) ?_
          exact ih x_7 x_6 (by have h8 := c_2; simp only [Int32.lt_iff_toInt_lt, Int32.le_iff_toInt_le, Int32.reduceToInt] at h8; rw [ex_7, up_step (by omega)]; omega) (by have h8 := c_2; simp only [Int32.lt_iff_toInt_lt, Int32.le_iff_toInt_le, Int32.reduceToInt] at h8; rw [ex_7, up_step (by omega)]; omega) (by subst ex_6; subst ex_7; rw [← hR0]; simp only [m_Names_countValues_L9_r, if_neg c_1, if_neg c_2, if_neg c_4]) _ _ _ (hP.sub [0, 1] rfl) (hD.sub [0, 1] (by decide) rfl) hS (lv_sub hl [0, 1, 2, 3, 4] rfl)

set_option maxHeartbeats 4000000 in
set_option maxRecDepth 100000 in
/-- how many of them have a VALUE -/
theorem c_Names_countValues (l : Launch) (dC : Nat → ClassId) (dI : Nat → Nat → Nat) (sz : Nat) (h0 : Nat) (n_heap : Nat) (n_globalNames : Nat) (n_globalValues : Nat) (n_globals : Int32) (n_localNames : Nat) (n_localValues : Nat) (n_locals : Int32) (n_keptValues : Nat) (n_keptGlobals : Int32) (n_localValues_v : Nat → Int32) (cI : ClassId) (a : Int32) (b : Int32)  : Met l y_Names_countValues w_Names_countValues ({ frames := 1, cells := 0, slots := 0, locals := 21 }) (va_Pc [.ref h0, .int a, .int b] (fun U => U.heap.size = sz ∧ va_P (dC, dI) classes [(h0, .inr (3, [.ref n_heap, .ref n_globalNames, .ref n_globalValues, .int n_globals, .ref n_localNames, .ref n_localValues, .int n_locals, .ref n_keptValues, .int n_keptGlobals])), (n_localValues, .inl (cI, 1800, .inl n_localValues_v))] U.heap ∧ va_K (dC, dI) classes [(cI, .int)] U ∧ va_D (fun _ => True) [(h0, .inr (3, [.ref n_heap, .ref n_globalNames, .ref n_globalValues, .int n_globals, .ref n_localNames, .ref n_localValues, .int n_locals, .ref n_keptValues, .int n_keptGlobals])), (n_localValues, .inl (cI, 1800, .inl n_localValues_v))])) (va_Qi (fun (r : Int32) (_ : Unit) => r = m_Names_countValues_r n_localValues_v a b) (fun (_ : Unit) t => va_P (dC, dI) classes [(h0, .inr (3, [.ref n_heap, .ref n_globalNames, .ref n_globalValues, .int n_globals, .ref n_localNames, .ref n_localValues, .int n_locals, .ref n_keptValues, .int n_keptGlobals])), (n_localValues, .inl (cI, 1800, .inl n_localValues_v))] t.heap ∧ va_K (dC, dI) classes [(cI, .int)] t ∧ va_D (va_A [(h0, .inr (3, [.ref n_heap, .ref n_globalNames, .ref n_globalValues, .int n_globals, .ref n_localNames, .ref n_localValues, .int n_locals, .ref n_keptValues, .int n_keptGlobals])), (n_localValues, .inl (cI, 1800, .inl n_localValues_v))] sz) [(h0, .inr (3, [.ref n_heap, .ref n_globalNames, .ref n_globalValues, .int n_globals, .ref n_localNames, .ref n_localValues, .int n_locals, .ref n_keptValues, .int n_keptGlobals])), (n_localValues, .inl (cI, 1800, .inl n_localValues_v))]) (va_A [(h0, .inr (3, [.ref n_heap, .ref n_globalNames, .ref n_globalValues, .int n_globals, .ref n_localNames, .ref n_localValues, .int n_locals, .ref n_keptValues, .int n_keptGlobals])), (n_localValues, .inl (cI, 1800, .inl n_localValues_v))] sz)) 0 0 (va_A [(h0, .inr (3, [.ref n_heap, .ref n_globalNames, .ref n_globalValues, .int n_globals, .ref n_localNames, .ref n_localValues, .int n_locals, .ref n_keptValues, .int n_keptGlobals])), (n_localValues, .inl (cI, 1800, .inl n_localValues_v))] sz) := by
  refine Met.ofW (cc := b_Names_countValues) (maxL := 5) (ret := (some .int)) (by decide) rfl ?_
  intro p e s m args below meth c s₁ B hml hv
  obtain ⟨rfl, hsz, hP, hK, hD0⟩ := hv
  have hx := B.exec
  have hb := B.bytes
  have hr := B.returns
  have hts := atoms_spec (ws := w_Names_countValues) B.pre
  have htt : ∀ w ∈ tw_T, w.before _ s = true := fun w h => hts w (List.mem_cons_of_mem _ h)
  have hown : s.vm.findClass R_Names = some m.cls := findClass_of_methodNamed B.named
  have hlocks := B.notSynchronized
  subst hsz
  have hD := hD0.self (sz := s.heap.size)
  generalize hAe : va_A [(h0, .inr (3, [.ref n_heap, .ref n_globalNames, .ref n_globalValues, .int n_globals, .ref n_localNames, .ref n_localValues, .int n_locals, .ref n_keptValues, .int n_keptGlobals])), (n_localValues, .inl (cI, 1800, .inl n_localValues_v))] s.heap.size = A at hD ⊢
  have hA : ∀ q : Nat, s.heap.size ≤ q → A q := fun q h => by rw [← hAe]; exact Or.inr h
  have hS : va_S A s.heap s.heap [] := va_S.rf
  have hP : va_P (dC, dI) classes [(h0, .inr (3, [.ref n_heap, .ref n_globalNames, .ref n_globalValues, .int n_globals, .ref n_localNames, .ref n_localValues, .int n_locals, .ref n_keptValues, .int n_keptGlobals])), (n_localValues, .inl (cI, 1800, .inl n_localValues_v))] s.heap := hP
  have hl := lv_entry ([.ref h0, .int a, .int b]) (n := 5) (Nat.le_of_ble_eq_true rfl)
  rw [lg_entry_eq]
  generalize (lg_sl ([.ref h0, .int a, .int b]) ++ List.replicate (5 - (lg_sl ([.ref h0, .int a, .int b])).length) Slot.unset).toArray = ls at hl ⊢
  have hl : lv_has ls 5 [(0, .ref h0), (1, .int a), (2, .int b)] := hl
  refine lv_iconst (v := 0) hx hb d_Names_countValues_0 (by decide) ?_
  refine lv_istore_n (lv' := [(3, .int 0), (0, .ref h0), (1, .int a), (2, .int b)]) hx hb d_Names_countValues_1 rfl hl (by decide) rfl (fun ls hl => ?_)
  refine lv_iload_n hx hb d_Names_countValues_2 rfl (lv_at hl 2 rfl) ?_
  refine lv_iconst (v := 0) hx hb d_Names_countValues_3 (by decide) ?_
  have hPc := hP.sub (ws' := []) [] rfl
  have hDc := hD.sub (ws' := []) [] (by decide) rfl
  have hKc := hK.sub (tys' := []) [] rfl
  have hFc := va_free (wc := []) hD hS hA [] rfl
  refine va_calli (va_runS (As := [.int a, .int 0]) (rest := []) ⟨hx, hb, hml, hown, hts⟩ (c_Math_max l dC dI s.heap.size a 0) (va_cwS 2 hts (tw_GS tw_cons cw_Math_max lk_Names_58 st_Math_max ini_Math) rfl rfl rfl (by decide +kernel) ⟨Nat.le_of_ble_eq_true rfl, Nat.le_of_ble_eq_true rfl⟩) ⟨fun a U g mk q => by obtain ⟨q0, q1, qP, qK, qD⟩ := q; exact ⟨q0, q1, qP, va_K.moved (u := U) (U := U.calling g mk a) (Vm.Alike.refl U.vm) qK, qD⟩, fun U hU hW => ⟨rfl, by rw [hU], by rw [hU]; exact hPc, va_K.moved hW.alike hKc, hDc.weaken (fun _ _ _ _ => trivial)⟩⟩ rfl rfl hl.1 rfl (lv_room (Nat.le_of_ble_eq_true rfl)) d_Names_countValues_4 ⟨Nat.le_of_ble_eq_true rfl, Nat.le_of_ble_eq_true rfl⟩) hS (fun q _ h => hFc q h) hFc (fun r9 u9 t9 H1 locs ht hvm e9 hB hz1 hk1 hS => ?_)
  obtain ⟨hP1, hK1, hD1⟩ := hB
  rw [ht] at hP1
  obtain ⟨hP, hD⟩ := va_join (wr := [(h0, .inr (3, [.ref n_heap, .ref n_globalNames, .ref n_globalValues, .int n_globals, .ref n_localNames, .ref n_localValues, .int n_locals, .ref n_keptValues, .int n_keptGlobals])), (n_localValues, .inl (cI, 1800, .inl n_localValues_v))]) (w1 := []) hP hD [] [0, 1] rfl rfl (by decide) (by decide) hk1 hFc hP1 hD1
  subst e9
  clear hP1 hD1 hK1 hvm hz1 hk1 hFc hKc hDc hPc
  subst ht
  generalize t9.heap = H at hP hS ⊢
  have hP : va_P (dC, dI) classes [(h0, .inr (3, [.ref n_heap, .ref n_globalNames, .ref n_globalValues, .int n_globals, .ref n_localNames, .ref n_localValues, .int n_locals, .ref n_keptValues, .int n_keptGlobals])), (n_localValues, .inl (cI, 1800, .inl n_localValues_v))] H := hP
  have hD : va_D A [(h0, .inr (3, [.ref n_heap, .ref n_globalNames, .ref n_globalValues, .int n_globals, .ref n_localNames, .ref n_localValues, .int n_locals, .ref n_keptValues, .int n_keptGlobals])), (n_localValues, .inl (cI, 1800, .inl n_localValues_v))] := hD
  refine lv_topi (fun x_1 ex_1 => ?_)
  refine lv_istore (lv' := [(4, .int x_1), (3, .int 0), (0, .ref h0), (1, .int a), (2, .int b)]) hx hb d_Names_countValues_7 hl (by decide) rfl (fun ls hl => ?_)
  exact lp_Names_countValues_9 l dC dI h0 n_heap n_globalNames n_globalValues n_globals n_localNames n_localValues n_locals n_keptValues n_keptGlobals n_localValues_v cI a b hx hb hml hown hts hK hA hr hlocks (m_Names_countValues_r n_localValues_v a b) ((1800 - x_1.toInt).toNat + 1) x_1 0 (by rw [ex_1]; exact mx0 a) (by exact Nat.lt_succ_self _) (by subst ex_1; unfold m_Names_countValues_r; rfl) _ _ _ (hP.sub [0, 1] rfl) (hD.sub [0, 1] (by decide) rfl) hS (lv_sub hl [0, 1, 2, 3, 4] rfl)
