theorem d_Turtles_onScreen_0 : decode b_Turtles_onScreen 0 = .ok (.lload_n 0, 1) := by decide +kernel
theorem d_Turtles_onScreen_1 : decode b_Turtles_onScreen 1 = .ok (.ldc2_w 87, 3) := by decide +kernel
theorem d_Turtles_onScreen_4 : decode b_Turtles_onScreen 4 = .ok (.lcmp, 1) := by decide +kernel
theorem d_Turtles_onScreen_5 : decode b_Turtles_onScreen 5 = .ok (.ifCond .lt 31, 3) := by decide +kernel
theorem d_Turtles_onScreen_8 : decode b_Turtles_onScreen 8 = .ok (.lload_n 0, 1) := by decide +kernel
theorem d_Turtles_onScreen_9 : decode b_Turtles_onScreen 9 = .ok (.ldc2_w 108, 3) := by decide +kernel
theorem d_Turtles_onScreen_12 : decode b_Turtles_onScreen 12 = .ok (.lcmp, 1) := by decide +kernel
theorem d_Turtles_onScreen_13 : decode b_Turtles_onScreen 13 = .ok (.ifCond .ge 23, 3) := by decide +kernel
theorem d_Turtles_onScreen_16 : decode b_Turtles_onScreen 16 = .ok (.lload_n 2, 1) := by decide +kernel
theorem d_Turtles_onScreen_17 : decode b_Turtles_onScreen 17 = .ok (.ldc2_w 87, 3) := by decide +kernel
theorem d_Turtles_onScreen_20 : decode b_Turtles_onScreen 20 = .ok (.lcmp, 1) := by decide +kernel
theorem d_Turtles_onScreen_21 : decode b_Turtles_onScreen 21 = .ok (.ifCond .lt 15, 3) := by decide +kernel
theorem d_Turtles_onScreen_24 : decode b_Turtles_onScreen 24 = .ok (.lload_n 2, 1) := by decide +kernel
theorem d_Turtles_onScreen_25 : decode b_Turtles_onScreen 25 = .ok (.ldc2_w 108, 3) := by decide +kernel
theorem d_Turtles_onScreen_28 : decode b_Turtles_onScreen 28 = .ok (.lcmp, 1) := by decide +kernel
theorem d_Turtles_onScreen_29 : decode b_Turtles_onScreen 29 = .ok (.ifCond .ge 7, 3) := by decide +kernel
theorem d_Turtles_onScreen_32 : decode b_Turtles_onScreen 32 = .ok (.iconst 1, 1) := by decide +kernel
theorem d_Turtles_onScreen_33 : decode b_Turtles_onScreen 33 = .ok (.goto 4, 3) := by decide +kernel
theorem d_Turtles_onScreen_36 : decode b_Turtles_onScreen 36 = .ok (.iconst 0, 1) := by decide +kernel
theorem d_Turtles_onScreen_37 : decode b_Turtles_onScreen 37 = .ok (.ireturn, 1) := by decide +kernel
theorem lk_Turtles_87 : Cond.constantLong "TurtleWorld$Turtles" 87 (-32) ∈ tw_T := tw_i6 45 (by decide +kernel) (by decide +kernel)
theorem lk_Turtles_108 : Cond.constantLong "TurtleWorld$Turtles" 108 32 ∈ tw_T := tw_i6 64 (by decide +kernel) (by decide +kernel)
theorem d_Turtles_colourAt_0 : decode b_Turtles_colourAt 0 = .ok (.iload_n 1, 1) := by decide +kernel
theorem d_Turtles_colourAt_1 : decode b_Turtles_colourAt 1 = .ok (.i2l, 1) := by decide +kernel
theorem d_Turtles_colourAt_2 : decode b_Turtles_colourAt 2 = .ok (.iload_n 2, 1) := by decide +kernel
theorem d_Turtles_colourAt_3 : decode b_Turtles_colourAt 3 = .ok (.i2l, 1) := by decide +kernel
theorem d_Turtles_colourAt_4 : decode b_Turtles_colourAt 4 = .ok (.invokestatic 115, 3) := by decide +kernel
theorem d_Turtles_colourAt_7 : decode b_Turtles_colourAt 7 = .ok (.ifCond .eq 16, 3) := by decide +kernel
theorem d_Turtles_colourAt_10 : decode b_Turtles_colourAt 10 = .ok (.aload_n 0, 1) := by decide +kernel
theorem d_Turtles_colourAt_11 : decode b_Turtles_colourAt 11 = .ok (.getfield 15, 3) := by decide +kernel
theorem d_Turtles_colourAt_14 : decode b_Turtles_colourAt 14 = .ok (.iload_n 1, 1) := by decide +kernel
theorem d_Turtles_colourAt_15 : decode b_Turtles_colourAt 15 = .ok (.iload_n 2, 1) := by decide +kernel
theorem d_Turtles_colourAt_16 : decode b_Turtles_colourAt 16 = .ok (.invokestatic 110, 3) := by decide +kernel
theorem d_Turtles_colourAt_19 : decode b_Turtles_colourAt 19 = .ok (.iaload, 1) := by decide +kernel
theorem d_Turtles_colourAt_20 : decode b_Turtles_colourAt 20 = .ok (.goto 4, 3) := by decide +kernel
theorem d_Turtles_colourAt_23 : decode b_Turtles_colourAt 23 = .ok (.iconst (-1), 1) := by decide +kernel
theorem d_Turtles_colourAt_24 : decode b_Turtles_colourAt 24 = .ok (.ireturn, 1) := by decide +kernel
theorem lk_Turtles_115 : Cond.methodLink "TurtleWorld$Turtles" 115 ⟨"TurtleWorld$Turtles", "onScreen", "(JJ)Z"⟩ ∈ tw_T := tw_i6 128 (by decide +kernel) (by decide +kernel)
theorem st_Turtles_onScreen : Cond.static ⟨"TurtleWorld$Turtles", "onScreen", "(JJ)Z"⟩ ∈ tw_T := tw_i6 129 (by decide +kernel) (by decide +kernel)
theorem lk_Turtles_15 : Cond.fieldLink "TurtleWorld$Turtles" 15 "TurtleWorld$Turtles" "dots" "[I" ∈ tw_T := tw_i2 87 (by decide +kernel) (by decide +kernel)
theorem lk_Turtles_110 : Cond.methodLink "TurtleWorld$Turtles" 110 ⟨"TurtleWorld$Turtles", "dotAt", "(II)I"⟩ ∈ tw_T := tw_i6 65 (by decide +kernel) (by decide +kernel)
theorem st_Turtles_dotAt : Cond.static ⟨"TurtleWorld$Turtles", "dotAt", "(II)I"⟩ ∈ tw_T := tw_i6 66 (by decide +kernel) (by decide +kernel)
theorem d_World_dot_0 : decode b_World_dot 0 = .ok (.aload_n 0, 1) := by decide +kernel
theorem d_World_dot_1 : decode b_World_dot 1 = .ok (.getfield 40, 3) := by decide +kernel
theorem d_World_dot_4 : decode b_World_dot 4 = .ok (.iload_n 1, 1) := by decide +kernel
theorem d_World_dot_5 : decode b_World_dot 5 = .ok (.iload_n 2, 1) := by decide +kernel
theorem d_World_dot_6 : decode b_World_dot 6 = .ok (.invokevirtual 200, 3) := by decide +kernel
theorem d_World_dot_9 : decode b_World_dot 9 = .ok (.ireturn, 1) := by decide +kernel
theorem lk_World_40 : Cond.fieldLink "TurtleWorld" 40 "TurtleWorld" "turtles" "LTurtleWorld$Turtles;" ∈ tw_T := tw_i3 197 (by decide +kernel) (by decide +kernel)
theorem lk_World_200 : Cond.methodLink "TurtleWorld" 200 ⟨"TurtleWorld$Turtles", "colourAt", "(II)I"⟩ ∈ tw_T := tw_i7 161 (by decide +kernel) (by decide +kernel)
theorem in_Turtles_colourAt : Cond.instanceMethod ⟨"TurtleWorld$Turtles", "colourAt", "(II)I"⟩ ∈ tw_T := tw_i7 162 (by decide +kernel) (by decide +kernel)
theorem sel_Turtles_colourAt : Cond.selects "TurtleWorld$Turtles" ⟨"TurtleWorld$Turtles", "colourAt", "(II)I"⟩ ⟨"TurtleWorld$Turtles", "colourAt", "(II)I"⟩ ∈ tw_T := tw_i7 163 (by decide +kernel) (by decide +kernel)
theorem d_Turtles_sumUp_0 : decode b_Turtles_sumUp 0 = .ok (.iconst 0, 1) := by decide +kernel
theorem d_Turtles_sumUp_1 : decode b_Turtles_sumUp 1 = .ok (.istore_n 1, 1) := by decide +kernel
theorem d_Turtles_sumUp_2 : decode b_Turtles_sumUp 2 = .ok (.iconst 0, 1) := by decide +kernel
theorem d_Turtles_sumUp_3 : decode b_Turtles_sumUp 3 = .ok (.istore_n 2, 1) := by decide +kernel
theorem d_Turtles_sumUp_4 : decode b_Turtles_sumUp 4 = .ok (.iload_n 2, 1) := by decide +kernel
theorem d_Turtles_sumUp_5 : decode b_Turtles_sumUp 5 = .ok (.aload_n 0, 1) := by decide +kernel
theorem d_Turtles_sumUp_6 : decode b_Turtles_sumUp 6 = .ok (.getfield 15, 3) := by decide +kernel
theorem d_Turtles_sumUp_9 : decode b_Turtles_sumUp 9 = .ok (.arraylength, 1) := by decide +kernel
theorem d_Turtles_sumUp_10 : decode b_Turtles_sumUp 10 = .ok (.if_icmp .ge 21, 3) := by decide +kernel
theorem d_Turtles_sumUp_13 : decode b_Turtles_sumUp 13 = .ok (.bipush 31, 2) := by decide +kernel
theorem d_Turtles_sumUp_15 : decode b_Turtles_sumUp 15 = .ok (.iload_n 1, 1) := by decide +kernel
theorem d_Turtles_sumUp_16 : decode b_Turtles_sumUp 16 = .ok (.imul, 1) := by decide +kernel
theorem d_Turtles_sumUp_17 : decode b_Turtles_sumUp 17 = .ok (.aload_n 0, 1) := by decide +kernel
theorem d_Turtles_sumUp_18 : decode b_Turtles_sumUp 18 = .ok (.getfield 15, 3) := by decide +kernel
theorem d_Turtles_sumUp_21 : decode b_Turtles_sumUp 21 = .ok (.iload_n 2, 1) := by decide +kernel
theorem d_Turtles_sumUp_22 : decode b_Turtles_sumUp 22 = .ok (.iaload, 1) := by decide +kernel
theorem d_Turtles_sumUp_23 : decode b_Turtles_sumUp 23 = .ok (.iadd, 1) := by decide +kernel
theorem d_Turtles_sumUp_24 : decode b_Turtles_sumUp 24 = .ok (.istore_n 1, 1) := by decide +kernel
theorem d_Turtles_sumUp_25 : decode b_Turtles_sumUp 25 = .ok (.iinc 2 1, 3) := by decide +kernel
theorem d_Turtles_sumUp_28 : decode b_Turtles_sumUp 28 = .ok (.goto (-24), 3) := by decide +kernel
theorem d_Turtles_sumUp_31 : decode b_Turtles_sumUp 31 = .ok (.iconst 0, 1) := by decide +kernel
theorem d_Turtles_sumUp_32 : decode b_Turtles_sumUp 32 = .ok (.istore_n 2, 1) := by decide +kernel
theorem d_Turtles_sumUp_33 : decode b_Turtles_sumUp 33 = .ok (.iload_n 2, 1) := by decide +kernel
theorem d_Turtles_sumUp_34 : decode b_Turtles_sumUp 34 = .ok (.aload_n 0, 1) := by decide +kernel
theorem d_Turtles_sumUp_35 : decode b_Turtles_sumUp 35 = .ok (.getfield 11, 3) := by decide +kernel
theorem d_Turtles_sumUp_38 : decode b_Turtles_sumUp 38 = .ok (.arraylength, 1) := by decide +kernel
theorem d_Turtles_sumUp_39 : decode b_Turtles_sumUp 39 = .ok (.if_icmp .ge 21, 3) := by decide +kernel
theorem d_Turtles_sumUp_42 : decode b_Turtles_sumUp 42 = .ok (.bipush 31, 2) := by decide +kernel
theorem d_Turtles_sumUp_44 : decode b_Turtles_sumUp 44 = .ok (.iload_n 1, 1) := by decide +kernel
theorem d_Turtles_sumUp_45 : decode b_Turtles_sumUp 45 = .ok (.imul, 1) := by decide +kernel
theorem d_Turtles_sumUp_46 : decode b_Turtles_sumUp 46 = .ok (.aload_n 0, 1) := by decide +kernel
theorem d_Turtles_sumUp_47 : decode b_Turtles_sumUp 47 = .ok (.getfield 11, 3) := by decide +kernel
theorem d_Turtles_sumUp_50 : decode b_Turtles_sumUp 50 = .ok (.iload_n 2, 1) := by decide +kernel
theorem d_Turtles_sumUp_51 : decode b_Turtles_sumUp 51 = .ok (.iaload, 1) := by decide +kernel
theorem d_Turtles_sumUp_52 : decode b_Turtles_sumUp 52 = .ok (.iadd, 1) := by decide +kernel
theorem d_Turtles_sumUp_53 : decode b_Turtles_sumUp 53 = .ok (.istore_n 1, 1) := by decide +kernel
theorem d_Turtles_sumUp_54 : decode b_Turtles_sumUp 54 = .ok (.iinc 2 1, 3) := by decide +kernel
theorem d_Turtles_sumUp_57 : decode b_Turtles_sumUp 57 = .ok (.goto (-24), 3) := by decide +kernel
theorem d_Turtles_sumUp_60 : decode b_Turtles_sumUp 60 = .ok (.iload_n 1, 1) := by decide +kernel
theorem d_Turtles_sumUp_61 : decode b_Turtles_sumUp 61 = .ok (.ireturn, 1) := by decide +kernel
theorem d_World_sum_0 : decode b_World_sum 0 = .ok (.aload_n 0, 1) := by decide +kernel
theorem d_World_sum_1 : decode b_World_sum 1 = .ok (.getfield 40, 3) := by decide +kernel
theorem d_World_sum_4 : decode b_World_sum 4 = .ok (.invokevirtual 248, 3) := by decide +kernel
theorem d_World_sum_7 : decode b_World_sum 7 = .ok (.ireturn, 1) := by decide +kernel
theorem lk_World_248 : Cond.methodLink "TurtleWorld" 248 ⟨"TurtleWorld$Turtles", "sumUp", "()I"⟩ ∈ tw_T := tw_i7 219 (by decide +kernel) (by decide +kernel)
theorem in_Turtles_sumUp : Cond.instanceMethod ⟨"TurtleWorld$Turtles", "sumUp", "()I"⟩ ∈ tw_T := tw_i7 220 (by decide +kernel) (by decide +kernel)
theorem sel_Turtles_sumUp : Cond.selects "TurtleWorld$Turtles" ⟨"TurtleWorld$Turtles", "sumUp", "()I"⟩ ⟨"TurtleWorld$Turtles", "sumUp", "()I"⟩ ∈ tw_T := tw_i7 221 (by decide +kernel) (by decide +kernel)
def ts_on (i j : Int64) : Int32 := if lg_cmp i (-32) < 0 then 0 else if 0 ≤ lg_cmp i 32 then 0 else if lg_cmp j (-32) < 0 then 0 else if 0 ≤ lg_cmp j 32 then 0 else 1
theorem ts_onZ (i j : Int64) : narrow .boolean (.int (ts_on i j)) = .int (ts_on i j) := by
  unfold ts_on
  split
  · decide
  · split
    · decide
    · split
      · decide
      · split <;> decide
theorem ts_dotAt_in (i j : Int32) : vp_in (ts_dotAt i j) 4096 := pk_andIn _ 12 (by decide) (by decide)
def ts_colourAt (d : Nat → Int32) (i j : Int32) : Int32 := if ts_on i.toInt64 j.toInt64 = 0 then -1 else d (ts_dotAt i j).toNatClampNeg

set_option maxHeartbeats 4000000 in
set_option maxRecDepth 100000 in
/-- whether a DOT is on the SCREEN -/
theorem c_Turtles_onScreen (l : Launch) (dC : Nat → ClassId) (dI : Nat → Nat → Nat) (sz : Nat) (i : Int64) (j : Int64)  : Met l y_Turtles_onScreen w_Turtles_onScreen ({ frames := 0, cells := 0, slots := 0, locals := 0 }) (va_Pc [.long i, .long j] (fun U => U.heap.size = sz ∧ va_P (dC, dI) classes ([] : va_W) U.heap ∧ va_K (dC, dI) classes [] U ∧ va_D (fun _ => True) ([] : va_W))) (va_Qi (fun (r : Int32) (_ : Unit) => r = ts_on i j) (fun (_ : Unit) t => va_P (dC, dI) classes ([] : va_W) t.heap ∧ va_K (dC, dI) classes [] t ∧ va_D (va_A ([] : va_W) sz) ([] : va_W)) (va_A ([] : va_W) sz)) 0 0 (va_A ([] : va_W) sz) := by
  refine Met.ofW (cc := b_Turtles_onScreen) (maxL := 4) (ret := (some .boolean)) (by decide) rfl ?_
  intro p e s m args below meth c s₁ B hml hv
  obtain ⟨rfl, hsz, hP, hK, hD0⟩ := hv
  have hx := B.exec
  have hb := B.bytes
  have hr := B.returns
  have hts := atoms_spec (ws := w_Turtles_onScreen) B.pre
  have htt : ∀ w ∈ tw_T, w.before _ s = true := fun w h => hts w (List.mem_cons_of_mem _ h)
  have hown : s.vm.findClass R_Turtles = some m.cls := findClass_of_methodNamed B.named
  have hlocks := B.notSynchronized
  subst hsz
  have hD := hD0.self (sz := s.heap.size)
  generalize hAe : va_A ([] : va_W) s.heap.size = A at hD ⊢
  have hA : ∀ q : Nat, s.heap.size ≤ q → A q := fun q h => by rw [← hAe]; exact Or.inr h
  have hS : va_S A s.heap s.heap [] := va_S.rf
  have hP : va_P (dC, dI) classes ([] : va_W) s.heap := hP
  have hl := lv_entry ([.long i, .long j]) (n := 4) (Nat.le_of_ble_eq_true rfl)
  rw [lg_entry_eq]
  generalize (lg_sl ([.long i, .long j]) ++ List.replicate (4 - (lg_sl ([.long i, .long j])).length) Slot.unset).toArray = ls at hl ⊢
  have hl : lv_has ls 4 [(0, .long i), (2, .long j)] := hl
  refine lv_lload_n hx hb d_Turtles_onScreen_0 rfl (lv_at hl 0 rfl) ?_
  refine lv_ldc2 (v := (-32)) hx hb hown (htt _ lk_Turtles_87) d_Turtles_onScreen_1 ?_
  refine W.lcmp hx hb d_Turtles_onScreen_4 ?_
  refine lv_if_lt (tgt := 36) hx hb d_Turtles_onScreen_5 (by decide) (fun c_1 => ?_) (fun c_1 => ?_)
  · refine lv_iconst (v := 0) hx hb d_Turtles_onScreen_36 (by decide) ?_
    have hP9 := hP.sub (ws' := []) [] rfl
    have hD9 := hD.sub (ws' := []) [] (by decide) rfl
    exact W.zret (v := 0) hx hb hr (by decide) (fun t9 ht hW => ⟨⟨0, (), rfl, by unfold ts_on; rw [if_pos c_1], by rw [ht]; exact hP9, va_K.moved hW.alike hK, hD9⟩, hS.F ht⟩) hS.2.2 d_Turtles_onScreen_37
  · refine lv_lload_n hx hb d_Turtles_onScreen_8 rfl (lv_at hl 0 rfl) ?_
    refine lv_ldc2 (v := 32) hx hb hown (htt _ lk_Turtles_108) d_Turtles_onScreen_9 ?_
    refine W.lcmp hx hb d_Turtles_onScreen_12 ?_
    refine lv_if_ge (tgt := 36) hx hb d_Turtles_onScreen_13 (by decide) (fun c_2 => ?_) (fun c_2 => ?_)
    · refine lv_iconst (v := 0) hx hb d_Turtles_onScreen_36 (by decide) ?_
      have hP9 := hP.sub (ws' := []) [] rfl
      have hD9 := hD.sub (ws' := []) [] (by decide) rfl
      exact W.zret (v := 0) hx hb hr (by decide) (fun t9 ht hW => ⟨⟨0, (), rfl, by unfold ts_on; rw [if_neg c_1, if_pos c_2], by rw [ht]; exact hP9, va_K.moved hW.alike hK, hD9⟩, hS.F ht⟩) hS.2.2 d_Turtles_onScreen_37
    · refine lv_lload_n hx hb d_Turtles_onScreen_16 rfl (lv_at hl 1 rfl) ?_
      refine lv_ldc2 (v := (-32)) hx hb hown (htt _ lk_Turtles_87) d_Turtles_onScreen_17 ?_
      refine W.lcmp hx hb d_Turtles_onScreen_20 ?_
      refine lv_if_lt (tgt := 36) hx hb d_Turtles_onScreen_21 (by decide) (fun c_3 => ?_) (fun c_3 => ?_)
      · refine lv_iconst (v := 0) hx hb d_Turtles_onScreen_36 (by decide) ?_
        have hP9 := hP.sub (ws' := []) [] rfl
        have hD9 := hD.sub (ws' := []) [] (by decide) rfl
        exact W.zret (v := 0) hx hb hr (by decide) (fun t9 ht hW => ⟨⟨0, (), rfl, by unfold ts_on; rw [if_neg c_1, if_neg c_2, if_pos c_3], by rw [ht]; exact hP9, va_K.moved hW.alike hK, hD9⟩, hS.F ht⟩) hS.2.2 d_Turtles_onScreen_37
      · refine lv_lload_n hx hb d_Turtles_onScreen_24 rfl (lv_at hl 1 rfl) ?_
        refine lv_ldc2 (v := 32) hx hb hown (htt _ lk_Turtles_108) d_Turtles_onScreen_25 ?_
        refine W.lcmp hx hb d_Turtles_onScreen_28 ?_
        refine lv_if_ge (tgt := 36) hx hb d_Turtles_onScreen_29 (by decide) (fun c_4 => ?_) (fun c_4 => ?_)
        · refine lv_iconst (v := 0) hx hb d_Turtles_onScreen_36 (by decide) ?_
          have hP9 := hP.sub (ws' := []) [] rfl
          have hD9 := hD.sub (ws' := []) [] (by decide) rfl
          exact W.zret (v := 0) hx hb hr (by decide) (fun t9 ht hW => ⟨⟨0, (), rfl, by unfold ts_on; rw [if_neg c_1, if_neg c_2, if_neg c_3, if_pos c_4], by rw [ht]; exact hP9, va_K.moved hW.alike hK, hD9⟩, hS.F ht⟩) hS.2.2 d_Turtles_onScreen_37
        · refine lv_iconst (v := 1) hx hb d_Turtles_onScreen_32 (by decide) ?_
          refine lv_goto (tgt := 37) hx hb d_Turtles_onScreen_33 (by decide) ?_
          have hP9 := hP.sub (ws' := []) [] rfl
          have hD9 := hD.sub (ws' := []) [] (by decide) rfl
          exact W.zret (v := 1) hx hb hr (by decide) (fun t9 ht hW => ⟨⟨1, (), rfl, by unfold ts_on; rw [if_neg c_1, if_neg c_2, if_neg c_3, if_neg c_4], by rw [ht]; exact hP9, va_K.moved hW.alike hK, hD9⟩, hS.F ht⟩) hS.2.2 d_Turtles_onScreen_37

set_option maxHeartbeats 4000000 in
set_option maxRecDepth 100000 in
/-- the colour of a DOT -/
theorem c_Turtles_colourAt (l : Launch) (dC : Nat → ClassId) (dI : Nat → Nat → Nat) (sz : Nat) (h0 : Nat) (t_parts : Nat) (t_dots : Nat) (t_told : Int32) (t_start : Nat) (t_goal : Nat) (t_keptParts : Nat) (t_keptDots : Nat) (t_keptTold : Int32) (cI : ClassId) (dots : Nat → Int32) (i : Int32) (j : Int32)  : Met l y_Turtles_colourAt w_Turtles_colourAt ({ frames := 1, cells := 0, slots := 0, locals := 23 }) (va_Pc [.ref h0, .int i, .int j] (fun U => U.heap.size = sz ∧ va_P (dC, dI) classes [(h0, .inr (5, [.ref t_parts, .ref t_dots, .int t_told, .ref t_start, .ref t_goal, .ref t_keptParts, .ref t_keptDots, .int t_keptTold])), (t_dots, .inl (cI, 4096, .inl dots))] U.heap ∧ va_K (dC, dI) classes [(cI, .int)] U ∧ va_D (fun _ => True) [(h0, .inr (5, [.ref t_parts, .ref t_dots, .int t_told, .ref t_start, .ref t_goal, .ref t_keptParts, .ref t_keptDots, .int t_keptTold])), (t_dots, .inl (cI, 4096, .inl dots))])) (va_Qi (fun (r : Int32) (_ : Unit) => r = ts_colourAt dots i j) (fun (_ : Unit) t => va_P (dC, dI) classes [(h0, .inr (5, [.ref t_parts, .ref t_dots, .int t_told, .ref t_start, .ref t_goal, .ref t_keptParts, .ref t_keptDots, .int t_keptTold])), (t_dots, .inl (cI, 4096, .inl dots))] t.heap ∧ va_K (dC, dI) classes [(cI, .int)] t ∧ va_D (va_A [(h0, .inr (5, [.ref t_parts, .ref t_dots, .int t_told, .ref t_start, .ref t_goal, .ref t_keptParts, .ref t_keptDots, .int t_keptTold])), (t_dots, .inl (cI, 4096, .inl dots))] sz) [(h0, .inr (5, [.ref t_parts, .ref t_dots, .int t_told, .ref t_start, .ref t_goal, .ref t_keptParts, .ref t_keptDots, .int t_keptTold])), (t_dots, .inl (cI, 4096, .inl dots))]) (va_A [(h0, .inr (5, [.ref t_parts, .ref t_dots, .int t_told, .ref t_start, .ref t_goal, .ref t_keptParts, .ref t_keptDots, .int t_keptTold])), (t_dots, .inl (cI, 4096, .inl dots))] sz)) 0 0 (va_A [(h0, .inr (5, [.ref t_parts, .ref t_dots, .int t_told, .ref t_start, .ref t_goal, .ref t_keptParts, .ref t_keptDots, .int t_keptTold])), (t_dots, .inl (cI, 4096, .inl dots))] sz) := by
  refine Met.ofW (cc := b_Turtles_colourAt) (maxL := 3) (ret := (some .int)) (by decide) rfl ?_
  intro p e s m args below meth c s₁ B hml hv
  obtain ⟨rfl, hsz, hP, hK, hD0⟩ := hv
  have hx := B.exec
  have hb := B.bytes
  have hr := B.returns
  have hts := atoms_spec (ws := w_Turtles_colourAt) B.pre
  have htt : ∀ w ∈ tw_T, w.before _ s = true := fun w h => hts w (List.mem_cons_of_mem _ h)
  have hown : s.vm.findClass R_Turtles = some m.cls := findClass_of_methodNamed B.named
  have hlocks := B.notSynchronized
  subst hsz
  have hD := hD0.self (sz := s.heap.size)
  generalize hAe : va_A [(h0, .inr (5, [.ref t_parts, .ref t_dots, .int t_told, .ref t_start, .ref t_goal, .ref t_keptParts, .ref t_keptDots, .int t_keptTold])), (t_dots, .inl (cI, 4096, .inl dots))] s.heap.size = A at hD ⊢
  have hA : ∀ q : Nat, s.heap.size ≤ q → A q := fun q h => by rw [← hAe]; exact Or.inr h
  have hS : va_S A s.heap s.heap [] := va_S.rf
  have hP : va_P (dC, dI) classes [(h0, .inr (5, [.ref t_parts, .ref t_dots, .int t_told, .ref t_start, .ref t_goal, .ref t_keptParts, .ref t_keptDots, .int t_keptTold])), (t_dots, .inl (cI, 4096, .inl dots))] s.heap := hP
  have hl := lv_entry ([.ref h0, .int i, .int j]) (n := 3) (Nat.le_of_ble_eq_true rfl)
  rw [lg_entry_eq]
  generalize (lg_sl ([.ref h0, .int i, .int j]) ++ List.replicate (3 - (lg_sl ([.ref h0, .int i, .int j])).length) Slot.unset).toArray = ls at hl ⊢
  have hl : lv_has ls 3 [(0, .ref h0), (1, .int i), (2, .int j)] := hl
  refine lv_iload_n hx hb d_Turtles_colourAt_0 rfl (lv_at hl 1 rfl) ?_
  refine lv_i2l hx hb d_Turtles_colourAt_1 rfl ?_
  refine lv_iload_n hx hb d_Turtles_colourAt_2 rfl (lv_at hl 2 rfl) ?_
  refine lv_i2l hx hb d_Turtles_colourAt_3 rfl ?_
  have hPc := hP.sub (ws' := []) [] rfl
  have hDc := hD.sub (ws' := []) [] (by decide) rfl
  have hKc := hK.sub (tys' := []) [] rfl
  have hFc := va_free (wc := []) hD hS hA [] rfl
  refine va_calli (va_runS (As := [.long i.toInt64, .long j.toInt64]) (rest := []) ⟨hx, hb, hml, hown, hts⟩ (c_Turtles_onScreen l dC dI s.heap.size i.toInt64 j.toInt64) (va_cwS 2 hts (tw_GS tw_cons cw_Turtles_onScreen lk_Turtles_115 st_Turtles_onScreen ini_Turtles) rfl rfl rfl (by decide +kernel) ⟨Nat.le_of_ble_eq_true rfl, Nat.le_of_ble_eq_true rfl⟩) ⟨fun a U g mk q => by obtain ⟨q0, q1, qP, qK, qD⟩ := q; exact ⟨q0, q1, qP, va_K.moved (u := U) (U := U.calling g mk a) (Vm.Alike.refl U.vm) qK, qD⟩, fun U hU hW => ⟨rfl, by rw [hU], by rw [hU]; exact hPc, va_K.moved hW.alike hKc, hDc.weaken (fun _ _ _ _ => trivial)⟩⟩ rfl rfl hl.1 rfl (lv_room (Nat.le_of_ble_eq_true rfl)) d_Turtles_colourAt_4 ⟨Nat.le_of_ble_eq_true rfl, Nat.le_of_ble_eq_true rfl⟩) hS (fun q _ h => hFc q h) hFc (fun r9 u9 t9 H1 locs ht hvm e9 hB hz1 hk1 hS => ?_)
  obtain ⟨hP1, hK1, hD1⟩ := hB
  rw [ht] at hP1
  obtain ⟨hP, hD⟩ := va_join (wr := [(h0, .inr (5, [.ref t_parts, .ref t_dots, .int t_told, .ref t_start, .ref t_goal, .ref t_keptParts, .ref t_keptDots, .int t_keptTold])), (t_dots, .inl (cI, 4096, .inl dots))]) (w1 := []) hP hD [] [0, 1] rfl rfl (by decide) (by decide) hk1 hFc hP1 hD1
  subst e9
  clear hP1 hD1 hK1 hvm hz1 hk1 hFc hKc hDc hPc
  subst ht
  generalize t9.heap = H at hP hS ⊢
  have hP : va_P (dC, dI) classes [(h0, .inr (5, [.ref t_parts, .ref t_dots, .int t_told, .ref t_start, .ref t_goal, .ref t_keptParts, .ref t_keptDots, .int t_keptTold])), (t_dots, .inl (cI, 4096, .inl dots))] H := hP
  have hD : va_D A [(h0, .inr (5, [.ref t_parts, .ref t_dots, .int t_told, .ref t_start, .ref t_goal, .ref t_keptParts, .ref t_keptDots, .int t_keptTold])), (t_dots, .inl (cI, 4096, .inl dots))] := hD
  refine lv_if_eq (tgt := 23) hx hb d_Turtles_colourAt_7 (by decide) (fun c_1 => ?_) (fun c_1 => ?_)
  · refine lv_iconst (v := -1) hx hb d_Turtles_colourAt_23 (by decide) ?_
    have hP9 := hP.sub (ws' := [(h0, .inr (5, [.ref t_parts, .ref t_dots, .int t_told, .ref t_start, .ref t_goal, .ref t_keptParts, .ref t_keptDots, .int t_keptTold])), (t_dots, .inl (cI, 4096, .inl dots))]) [0, 1] rfl
    have hD9 := hD.sub (ws' := [(h0, .inr (5, [.ref t_parts, .ref t_dots, .int t_told, .ref t_start, .ref t_goal, .ref t_keptParts, .ref t_keptDots, .int t_keptTold])), (t_dots, .inl (cI, 4096, .inl dots))]) [0, 1] (by decide) rfl
    exact W.iret (v := (-1)) hx hb hr (fun t9 ht hW => ⟨⟨(-1), (), rfl, by unfold ts_colourAt; rw [if_pos c_1], by rw [ht]; exact hP9, va_K.moved hW.alike hK, hD9⟩, hS.F ht⟩) hS.2.2 d_Turtles_colourAt_24
  · refine lv_aload_n hx hb d_Turtles_colourAt_10 rfl (lv_at hl 0 rfl) ?_
    refine va_get (D := (dC, dI)) (ci := 5) (v := .ref t_dots) (C := R_Turtles) (T := F_Turtles) (N := 8) hx hb htt iw_Turtles hown hK hP 0 rfl rfl 1 (by decide) (htt _ lk_Turtles_15) (fun _ h9 => h9) rfl d_Turtles_colourAt_11 ?_
    refine lv_iload_n hx hb d_Turtles_colourAt_14 rfl (lv_at hl 1 rfl) ?_
    refine lv_iload_n hx hb d_Turtles_colourAt_15 rfl (lv_at hl 2 rfl) ?_
    have hPc := hP.sub (ws' := []) [] rfl
    have hDc := hD.sub (ws' := []) [] (by decide) rfl
    have hKc := hK.sub (tys' := []) [] rfl
    have hFc := va_free (wc := []) hD hS hA [] rfl
    refine va_calli (va_runS (As := [.int i, .int j]) (rest := [.ref t_dots]) ⟨hx, hb, hml, hown, hts⟩ (c_Turtles_dotAt l dC dI H.size i j) (va_cwS 2 hts (tw_GS tw_cons cw_Turtles_dotAt lk_Turtles_110 st_Turtles_dotAt ini_Turtles) rfl rfl rfl (by decide +kernel) ⟨Nat.le_of_ble_eq_true rfl, Nat.le_of_ble_eq_true rfl⟩) ⟨fun a U g mk q => by obtain ⟨q0, q1, qP, qK, qD⟩ := q; exact ⟨q0, q1, qP, va_K.moved (u := U) (U := U.calling g mk a) (Vm.Alike.refl U.vm) qK, qD⟩, fun U hU hW => ⟨rfl, by rw [hU], by rw [hU]; exact hPc, va_K.moved hW.alike hKc, hDc.weaken (fun _ _ _ _ => trivial)⟩⟩ rfl rfl hl.1 rfl (lv_room (Nat.le_of_ble_eq_true rfl)) d_Turtles_colourAt_16 ⟨Nat.le_of_ble_eq_true rfl, Nat.le_of_ble_eq_true rfl⟩) hS (fun q _ h => hFc q h) hFc (fun r9 u9 t9 H1 locs ht hvm e9 hB hz1 hk1 hS => ?_)
    obtain ⟨hP1, hK1, hD1⟩ := hB
    rw [ht] at hP1
    obtain ⟨hP, hD⟩ := va_join (wr := [(h0, .inr (5, [.ref t_parts, .ref t_dots, .int t_told, .ref t_start, .ref t_goal, .ref t_keptParts, .ref t_keptDots, .int t_keptTold])), (t_dots, .inl (cI, 4096, .inl dots))]) (w1 := []) hP hD [] [0, 1] rfl rfl (by decide) (by decide) hk1 hFc hP1 hD1
    subst e9
    clear hP1 hD1 hK1 hvm hz1 hk1 hFc hKc hDc hPc
    subst ht
    generalize t9.heap = H at hP hS ⊢
    have hP : va_P (dC, dI) classes [(h0, .inr (5, [.ref t_parts, .ref t_dots, .int t_told, .ref t_start, .ref t_goal, .ref t_keptParts, .ref t_keptDots, .int t_keptTold])), (t_dots, .inl (cI, 4096, .inl dots))] H := hP
    have hD : va_D A [(h0, .inr (5, [.ref t_parts, .ref t_dots, .int t_told, .ref t_start, .ref t_goal, .ref t_keptParts, .ref t_keptDots, .int t_keptTold])), (t_dots, .inl (cI, 4096, .inl dots))] := hD
    have h_2 : vp_in (ts_dotAt i j) 4096 := ts_dotAt_in i j
    refine va_iald hx hb hK hP 1 0 rfl rfl h_2 d_Turtles_colourAt_19 ?_
    refine lv_goto (tgt := 24) hx hb d_Turtles_colourAt_20 (by decide) ?_
    have hP9 := hP.sub (ws' := [(h0, .inr (5, [.ref t_parts, .ref t_dots, .int t_told, .ref t_start, .ref t_goal, .ref t_keptParts, .ref t_keptDots, .int t_keptTold])), (t_dots, .inl (cI, 4096, .inl dots))]) [0, 1] rfl
    have hD9 := hD.sub (ws' := [(h0, .inr (5, [.ref t_parts, .ref t_dots, .int t_told, .ref t_start, .ref t_goal, .ref t_keptParts, .ref t_keptDots, .int t_keptTold])), (t_dots, .inl (cI, 4096, .inl dots))]) [0, 1] (by decide) rfl
    exact W.iret (v := dots (ts_dotAt i j).toNatClampNeg) hx hb hr (fun t9 ht hW => ⟨⟨dots (ts_dotAt i j).toNatClampNeg, (), rfl, by unfold ts_colourAt; rw [if_neg c_1], by rw [ht]; exact hP9, va_K.moved hW.alike hK, hD9⟩, hS.F ht⟩) hS.2.2 d_Turtles_colourAt_24

set_option maxHeartbeats 4000000 in
set_option maxRecDepth 100000 in
/-- dot(i, j) of the class -/
theorem c_World_dot (l : Launch) (dC : Nat → ClassId) (dI : Nat → Nat → Nat) (sz : Nat) (hw : Nat) (w_heap : Nat) (w_names : Nat) (w_procedures : Nat) (w_turtles : Nat) (w_output : Nat) (w_reader : Nat) (w_line : Nat) (w_deeds : Nat) (w_machine : Nat) (w_lineList : Int32) (w_keptTop : Int32) (w_keptSeed : Int32) (w_canGoBack : Int32) (t_parts : Nat) (t_dots : Nat) (t_told : Int32) (t_start : Nat) (t_goal : Nat) (t_keptParts : Nat) (t_keptDots : Nat) (t_keptTold : Int32) (cI : ClassId) (dots : Nat → Int32) (i : Int32) (j : Int32)  : Met l y_World_dot w_World_dot ({ frames := 2, cells := 0, slots := 0, locals := 45 }) (va_Pc [.ref hw, .int i, .int j] (fun U => U.heap.size = sz ∧ va_P (dC, dI) classes [(hw, .inr (0, [.ref w_heap, .ref w_names, .ref w_procedures, .ref w_turtles, .ref w_output, .ref w_reader, .ref w_line, .ref w_deeds, .ref w_machine, .int w_lineList, .int w_keptTop, .int w_keptSeed, .int w_canGoBack])), (w_turtles, .inr (5, [.ref t_parts, .ref t_dots, .int t_told, .ref t_start, .ref t_goal, .ref t_keptParts, .ref t_keptDots, .int t_keptTold])), (t_dots, .inl (cI, 4096, .inl dots))] U.heap ∧ va_K (dC, dI) classes [(cI, .int)] U ∧ va_D (fun _ => True) [(hw, .inr (0, [.ref w_heap, .ref w_names, .ref w_procedures, .ref w_turtles, .ref w_output, .ref w_reader, .ref w_line, .ref w_deeds, .ref w_machine, .int w_lineList, .int w_keptTop, .int w_keptSeed, .int w_canGoBack])), (w_turtles, .inr (5, [.ref t_parts, .ref t_dots, .int t_told, .ref t_start, .ref t_goal, .ref t_keptParts, .ref t_keptDots, .int t_keptTold])), (t_dots, .inl (cI, 4096, .inl dots))])) (va_Qi (fun (r : Int32) (_ : Unit) => r = ts_colourAt dots i j) (fun (_ : Unit) t => va_P (dC, dI) classes [(hw, .inr (0, [.ref w_heap, .ref w_names, .ref w_procedures, .ref w_turtles, .ref w_output, .ref w_reader, .ref w_line, .ref w_deeds, .ref w_machine, .int w_lineList, .int w_keptTop, .int w_keptSeed, .int w_canGoBack])), (w_turtles, .inr (5, [.ref t_parts, .ref t_dots, .int t_told, .ref t_start, .ref t_goal, .ref t_keptParts, .ref t_keptDots, .int t_keptTold])), (t_dots, .inl (cI, 4096, .inl dots))] t.heap ∧ va_K (dC, dI) classes [(cI, .int)] t ∧ va_D (va_A [(hw, .inr (0, [.ref w_heap, .ref w_names, .ref w_procedures, .ref w_turtles, .ref w_output, .ref w_reader, .ref w_line, .ref w_deeds, .ref w_machine, .int w_lineList, .int w_keptTop, .int w_keptSeed, .int w_canGoBack])), (w_turtles, .inr (5, [.ref t_parts, .ref t_dots, .int t_told, .ref t_start, .ref t_goal, .ref t_keptParts, .ref t_keptDots, .int t_keptTold])), (t_dots, .inl (cI, 4096, .inl dots))] sz) [(hw, .inr (0, [.ref w_heap, .ref w_names, .ref w_procedures, .ref w_turtles, .ref w_output, .ref w_reader, .ref w_line, .ref w_deeds, .ref w_machine, .int w_lineList, .int w_keptTop, .int w_keptSeed, .int w_canGoBack])), (w_turtles, .inr (5, [.ref t_parts, .ref t_dots, .int t_told, .ref t_start, .ref t_goal, .ref t_keptParts, .ref t_keptDots, .int t_keptTold])), (t_dots, .inl (cI, 4096, .inl dots))]) (va_A [(hw, .inr (0, [.ref w_heap, .ref w_names, .ref w_procedures, .ref w_turtles, .ref w_output, .ref w_reader, .ref w_line, .ref w_deeds, .ref w_machine, .int w_lineList, .int w_keptTop, .int w_keptSeed, .int w_canGoBack])), (w_turtles, .inr (5, [.ref t_parts, .ref t_dots, .int t_told, .ref t_start, .ref t_goal, .ref t_keptParts, .ref t_keptDots, .int t_keptTold])), (t_dots, .inl (cI, 4096, .inl dots))] sz)) 0 0 (va_A [(hw, .inr (0, [.ref w_heap, .ref w_names, .ref w_procedures, .ref w_turtles, .ref w_output, .ref w_reader, .ref w_line, .ref w_deeds, .ref w_machine, .int w_lineList, .int w_keptTop, .int w_keptSeed, .int w_canGoBack])), (w_turtles, .inr (5, [.ref t_parts, .ref t_dots, .int t_told, .ref t_start, .ref t_goal, .ref t_keptParts, .ref t_keptDots, .int t_keptTold])), (t_dots, .inl (cI, 4096, .inl dots))] sz) := by
  refine Met.ofW (cc := b_World_dot) (maxL := 3) (ret := (some .int)) (by decide) rfl ?_
  intro p e s m args below meth c s₁ B hml hv
  obtain ⟨rfl, hsz, hP, hK, hD0⟩ := hv
  have hx := B.exec
  have hb := B.bytes
  have hr := B.returns
  have hts := atoms_spec (ws := w_World_dot) B.pre
  have htt : ∀ w ∈ tw_T, w.before _ s = true := fun w h => hts w (List.mem_cons_of_mem _ h)
  have hown : s.vm.findClass R_World = some m.cls := findClass_of_methodNamed B.named
  have hlocks := B.notSynchronized
  subst hsz
  have hD := hD0.self (sz := s.heap.size)
  generalize hAe : va_A [(hw, .inr (0, [.ref w_heap, .ref w_names, .ref w_procedures, .ref w_turtles, .ref w_output, .ref w_reader, .ref w_line, .ref w_deeds, .ref w_machine, .int w_lineList, .int w_keptTop, .int w_keptSeed, .int w_canGoBack])), (w_turtles, .inr (5, [.ref t_parts, .ref t_dots, .int t_told, .ref t_start, .ref t_goal, .ref t_keptParts, .ref t_keptDots, .int t_keptTold])), (t_dots, .inl (cI, 4096, .inl dots))] s.heap.size = A at hD ⊢
  have hA : ∀ q : Nat, s.heap.size ≤ q → A q := fun q h => by rw [← hAe]; exact Or.inr h
  have hS : va_S A s.heap s.heap [] := va_S.rf
  have hP : va_P (dC, dI) classes [(hw, .inr (0, [.ref w_heap, .ref w_names, .ref w_procedures, .ref w_turtles, .ref w_output, .ref w_reader, .ref w_line, .ref w_deeds, .ref w_machine, .int w_lineList, .int w_keptTop, .int w_keptSeed, .int w_canGoBack])), (w_turtles, .inr (5, [.ref t_parts, .ref t_dots, .int t_told, .ref t_start, .ref t_goal, .ref t_keptParts, .ref t_keptDots, .int t_keptTold])), (t_dots, .inl (cI, 4096, .inl dots))] s.heap := hP
  have hl := lv_entry ([.ref hw, .int i, .int j]) (n := 3) (Nat.le_of_ble_eq_true rfl)
  rw [lg_entry_eq]
  generalize (lg_sl ([.ref hw, .int i, .int j]) ++ List.replicate (3 - (lg_sl ([.ref hw, .int i, .int j])).length) Slot.unset).toArray = ls at hl ⊢
  have hl : lv_has ls 3 [(0, .ref hw), (1, .int i), (2, .int j)] := hl
  refine lv_aload_n hx hb d_World_dot_0 rfl (lv_at hl 0 rfl) ?_
  refine va_get (D := (dC, dI)) (ci := 0) (v := .ref w_turtles) (C := R_World) (T := F_World) (N := 13) hx hb htt iw_World hown hK hP 0 rfl rfl 3 (by decide) (htt _ lk_World_40) (fun _ h9 => h9) rfl d_World_dot_1 ?_
  refine lv_iload_n hx hb d_World_dot_4 rfl (lv_at hl 1 rfl) ?_
  refine lv_iload_n hx hb d_World_dot_5 rfl (lv_at hl 2 rfl) ?_
  have hPc := hP.sub (ws' := [(w_turtles, .inr (5, [.ref t_parts, .ref t_dots, .int t_told, .ref t_start, .ref t_goal, .ref t_keptParts, .ref t_keptDots, .int t_keptTold])), (t_dots, .inl (cI, 4096, .inl dots))]) [1, 2] rfl
  have hDc := hD.sub (ws' := [(w_turtles, .inr (5, [.ref t_parts, .ref t_dots, .int t_told, .ref t_start, .ref t_goal, .ref t_keptParts, .ref t_keptDots, .int t_keptTold])), (t_dots, .inl (cI, 4096, .inl dots))]) [1, 2] (by decide) rfl
  have hKc := hK.sub (tys' := [(cI, .int)]) [0] rfl
  have hFc := va_free (wc := [(w_turtles, .inr (5, [.ref t_parts, .ref t_dots, .int t_told, .ref t_start, .ref t_goal, .ref t_keptParts, .ref t_keptDots, .int t_keptTold])), (t_dots, .inl (cI, 4096, .inl dots))]) hD hS hA [1, 2] rfl
  refine va_calli (va_runV (As := [.int i, .int j]) (rest := []) ⟨hx, hb, hml, hown, hts⟩ (c_Turtles_colourAt l dC dI s.heap.size w_turtles t_parts t_dots t_told t_start t_goal t_keptParts t_keptDots t_keptTold cI dots i j) (cwV 2 hts (tw_GV tw_cons cw_Turtles_colourAt lk_World_200 in_Turtles_colourAt sel_Turtles_colourAt ini_Turtles) rfl rfl rfl (by decide +kernel) ⟨Nat.le_of_ble_eq_true rfl, Nat.le_of_ble_eq_true rfl⟩) ⟨fun a U g mk q => by obtain ⟨q0, q1, qP, qK, qD⟩ := q; exact ⟨q0, q1, qP, va_K.moved (u := U) (U := U.calling g mk a) (Vm.Alike.refl U.vm) qK, qD⟩, va_recv hKc hPc (ci := 5) (q0 := 0) rfl rfl, fun U hU hW => ⟨rfl, by rw [hU], by rw [hU]; exact hPc, va_K.moved hW.alike hKc, hDc.weaken (fun _ _ _ _ => trivial)⟩⟩ rfl rfl hl.1 rfl (lv_room (Nat.le_of_ble_eq_true rfl)) d_World_dot_6 ⟨Nat.le_of_ble_eq_true rfl, Nat.le_of_ble_eq_true rfl⟩) hS (fun q _ h => hFc q h) hFc (fun r9 u9 t9 H1 locs ht hvm e9 hB hz1 hk1 hS => ?_)
  obtain ⟨hP1, hK1, hD1⟩ := hB
  rw [ht] at hP1
  obtain ⟨hP, hD⟩ := va_join (wr := [(hw, .inr (0, [.ref w_heap, .ref w_names, .ref w_procedures, .ref w_turtles, .ref w_output, .ref w_reader, .ref w_line, .ref w_deeds, .ref w_machine, .int w_lineList, .int w_keptTop, .int w_keptSeed, .int w_canGoBack]))]) (w1 := [(w_turtles, .inr (5, [.ref t_parts, .ref t_dots, .int t_told, .ref t_start, .ref t_goal, .ref t_keptParts, .ref t_keptDots, .int t_keptTold])), (t_dots, .inl (cI, 4096, .inl dots))]) hP hD [1, 2] [0] rfl rfl (by decide) (by decide) hk1 hFc hP1 hD1
  subst e9
  clear hP1 hD1 hK1 hvm hz1 hk1 hFc hKc hDc hPc
  subst ht
  generalize t9.heap = H at hP hS ⊢
  have hP : va_P (dC, dI) classes [(hw, .inr (0, [.ref w_heap, .ref w_names, .ref w_procedures, .ref w_turtles, .ref w_output, .ref w_reader, .ref w_line, .ref w_deeds, .ref w_machine, .int w_lineList, .int w_keptTop, .int w_keptSeed, .int w_canGoBack])), (w_turtles, .inr (5, [.ref t_parts, .ref t_dots, .int t_told, .ref t_start, .ref t_goal, .ref t_keptParts, .ref t_keptDots, .int t_keptTold])), (t_dots, .inl (cI, 4096, .inl dots))] H := hP
  have hD : va_D A [(hw, .inr (0, [.ref w_heap, .ref w_names, .ref w_procedures, .ref w_turtles, .ref w_output, .ref w_reader, .ref w_line, .ref w_deeds, .ref w_machine, .int w_lineList, .int w_keptTop, .int w_keptSeed, .int w_canGoBack])), (w_turtles, .inr (5, [.ref t_parts, .ref t_dots, .int t_told, .ref t_start, .ref t_goal, .ref t_keptParts, .ref t_keptDots, .int t_keptTold])), (t_dots, .inl (cI, 4096, .inl dots))] := hD
  have hP9 := hP.sub (ws' := [(hw, .inr (0, [.ref w_heap, .ref w_names, .ref w_procedures, .ref w_turtles, .ref w_output, .ref w_reader, .ref w_line, .ref w_deeds, .ref w_machine, .int w_lineList, .int w_keptTop, .int w_keptSeed, .int w_canGoBack])), (w_turtles, .inr (5, [.ref t_parts, .ref t_dots, .int t_told, .ref t_start, .ref t_goal, .ref t_keptParts, .ref t_keptDots, .int t_keptTold])), (t_dots, .inl (cI, 4096, .inl dots))]) [0, 1, 2] rfl
  have hD9 := hD.sub (ws' := [(hw, .inr (0, [.ref w_heap, .ref w_names, .ref w_procedures, .ref w_turtles, .ref w_output, .ref w_reader, .ref w_line, .ref w_deeds, .ref w_machine, .int w_lineList, .int w_keptTop, .int w_keptSeed, .int w_canGoBack])), (w_turtles, .inr (5, [.ref t_parts, .ref t_dots, .int t_told, .ref t_start, .ref t_goal, .ref t_keptParts, .ref t_keptDots, .int t_keptTold])), (t_dots, .inl (cI, 4096, .inl dots))]) [0, 1, 2] (by decide) rfl
  exact W.iret (v := ts_colourAt dots i j) hx hb hr (fun t9 ht hW => ⟨⟨ts_colourAt dots i j, (), rfl, rfl, by rw [ht]; exact hP9, va_K.moved hW.alike hK, hD9⟩, hS.F ht⟩) hS.2.2 d_World_dot_9

def ts_fold (f : Nat → Int32) : Nat → Nat → Int32 → Int32
  | _, 0, t => t
  | i, n + 1, t => ts_fold f (i + 1) n (31 * t + f i)
def ts_sumUp (d f : Nat → Int32) : Int32 := ts_fold f 0 56 (ts_fold d 0 4096 0)

set_option maxHeartbeats 4000000 in
set_option maxRecDepth 100000 in
/-- the loop at 4 -/
theorem lp_Turtles_sumUp_4 (l : Launch) (dC : Nat → ClassId) (dI : Nat → Nat → Nat) (h0 : Nat) (t_parts : Nat) (t_dots : Nat) (t_told : Int32) (t_start : Nat) (t_goal : Nat) (t_keptParts : Nat) (t_keptDots : Nat) (t_keptTold : Int32) (cI : ClassId) (dots : Nat → Int32) (parts : Nat → Int32)  {p : Program} {e : Env} {s : State} {m : MethodId} {below : List Frame} {meth : Method} {c : Code} {A : Nat → Prop} {Q : State → Prop} {cells slots : Nat} (hx : p.tables.exec = Jvm.exec) (hb : c.code = b_Turtles_sumUp) (hml : c.maxLocals = 3) (hown : s.vm.findClass R_Turtles = some m.cls) (hts : ∀ w ∈ w_Turtles_sumUp, w.before ([.ref h0] : List Value).toArray s = true) (hK : va_K (dC, dI) classes [(cI, .int)] s) (hA : ∀ q : Nat, s.heap.size ≤ q → A q) (S : Int32) (K : ∀ (H : Heap) (locs : List Loc) (ls : Array Slot), va_P (dC, dI) classes [(h0, .inr (5, [.ref t_parts, .ref t_dots, .int t_told, .ref t_start, .ref t_goal, .ref t_keptParts, .ref t_keptDots, .int t_keptTold])), (t_dots, .inl (cI, 4096, .inl dots)), (t_parts, .inl (cI, 56, .inl parts))] H → va_D A [(h0, .inr (5, [.ref t_parts, .ref t_dots, .int t_told, .ref t_start, .ref t_goal, .ref t_keptParts, .ref t_keptDots, .int t_keptTold])), (t_dots, .inl (cI, 4096, .inl dots)), (t_parts, .inl (cI, 56, .inl parts))] → va_S A s.heap H locs → lv_has ls 3 [(2, .int (nI 4096)), (1, .int S), (0, .ref h0)] → W p l e ({ frames := 0, cells := 0, slots := 0, locals := 0 } : Room) s m ([.ref h0] : List Value).toArray below meth c H locs cells slots Q (F0 m 31 ls [])) : ∀ (n : Nat) (i : Nat) (t : Int32), i + n = 4096 → ts_fold dots i n t = S → ∀ (H : Heap) (locs : List Loc) (ls : Array Slot), va_P (dC, dI) classes [(h0, .inr (5, [.ref t_parts, .ref t_dots, .int t_told, .ref t_start, .ref t_goal, .ref t_keptParts, .ref t_keptDots, .int t_keptTold])), (t_dots, .inl (cI, 4096, .inl dots)), (t_parts, .inl (cI, 56, .inl parts))] H → va_D A [(h0, .inr (5, [.ref t_parts, .ref t_dots, .int t_told, .ref t_start, .ref t_goal, .ref t_keptParts, .ref t_keptDots, .int t_keptTold])), (t_dots, .inl (cI, 4096, .inl dots)), (t_parts, .inl (cI, 56, .inl parts))] → va_S A s.heap H locs → lv_has ls 3 [(2, .int (nI i)), (1, .int t), (0, .ref h0)] → W p l e ({ frames := 0, cells := 0, slots := 0, locals := 0 } : Room) s m ([.ref h0] : List Value).toArray below meth c H locs cells slots Q (F0 m 4 ls []) := by
  have htt : ∀ w ∈ tw_T, w.before _ s = true := fun w h => hts w (List.mem_cons_of_mem _ h)
  intro n
  induction n with
  | zero =>
    intro i t hi hT H locs ls hP hD hS hl
    refine lv_iload_n hx hb d_Turtles_sumUp_4 rfl (lv_at hl 0 rfl) ?_
    refine lv_aload_n hx hb d_Turtles_sumUp_5 rfl (lv_at hl 2 rfl) ?_
    refine va_get (D := (dC, dI)) (ci := 5) (v := .ref t_dots) (C := R_Turtles) (T := F_Turtles) (N := 8) hx hb htt iw_Turtles hown hK hP 0 rfl rfl 1 (by decide) (htt _ lk_Turtles_15) (fun _ h9 => h9) rfl d_Turtles_sumUp_6 ?_
    refine va_alen (v := nI 4096) hx hb hK hP 1 0 rfl rfl rfl d_Turtles_sumUp_9 ?_
    refine lv_icmp_ge (tgt := 31) hx hb d_Turtles_sumUp_10 (by decide) (fun c_1 => ?_) (fun c_1 => ?_)
    · obtain rfl : i = 4096 := by omega
      subst hT
      exact K _ _ _ (hP.sub [0, 1, 2] rfl) (hD.sub [0, 1, 2] (by decide) rfl) hS (lv_sub hl [0, 1, 2] rfl)
    · exact absurd (nI_le (by omega) (by omega)) c_1
  | succ n ih =>
    intro i t hi hT H locs ls hP hD hS hl
    refine lv_iload_n hx hb d_Turtles_sumUp_4 rfl (lv_at hl 0 rfl) ?_
    refine lv_aload_n hx hb d_Turtles_sumUp_5 rfl (lv_at hl 2 rfl) ?_
    refine va_get (D := (dC, dI)) (ci := 5) (v := .ref t_dots) (C := R_Turtles) (T := F_Turtles) (N := 8) hx hb htt iw_Turtles hown hK hP 0 rfl rfl 1 (by decide) (htt _ lk_Turtles_15) (fun _ h9 => h9) rfl d_Turtles_sumUp_6 ?_
    refine va_alen (v := nI 4096) hx hb hK hP 1 0 rfl rfl rfl d_Turtles_sumUp_9 ?_
    refine lv_icmp_ge (tgt := 31) hx hb d_Turtles_sumUp_10 (by decide) (fun c_2 => ?_) (fun c_2 => ?_)
    · exact absurd c_2 (nI_ge (by omega) (by omega))
    · refine lv_bipush (v := 31) hx hb d_Turtles_sumUp_13 (by decide) ?_
      refine lv_iload_n hx hb d_Turtles_sumUp_15 rfl (lv_at hl 1 rfl) ?_
      refine lv_imul hx hb d_Turtles_sumUp_16 ?_
      refine lv_aload_n hx hb d_Turtles_sumUp_17 rfl (lv_at hl 2 rfl) ?_
      refine va_get (D := (dC, dI)) (ci := 5) (v := .ref t_dots) (C := R_Turtles) (T := F_Turtles) (N := 8) hx hb htt iw_Turtles hown hK hP 0 rfl rfl 1 (by decide) (htt _ lk_Turtles_15) (fun _ h9 => h9) rfl d_Turtles_sumUp_18 ?_
      refine lv_iload_n hx hb d_Turtles_sumUp_21 rfl (lv_at hl 0 rfl) ?_
      have h_3 : vp_in (nI i) 4096 := vp_in_nI (by omega) (by decide)
      refine va_iald hx hb hK hP 1 0 rfl rfl h_3 d_Turtles_sumUp_22 ?_
      refine lv_iadd hx hb d_Turtles_sumUp_23 ?_
      refine lv_topi (fun x_4 ex_4 => ?_)
      refine lv_istore_n (lv' := [(1, .int x_4), (2, .int (nI i)), (0, .ref h0)]) hx hb d_Turtles_sumUp_24 rfl hl (by decide) rfl (fun ls hl => ?_)
      refine lv_iinc (v := nI (i + 1)) (lv' := [(2, .int (nI (i + 1))), (1, .int x_4), (0, .ref h0)]) hx hb d_Turtles_sumUp_25 hl (k := 1) rfl (nI_1 _) (by decide) rfl (fun ls hl => ?_)
      refine lv_goto (tgt := 4) hx hb d_Turtles_sumUp_28 (by decide) ?_
      exact ih (i + 1) x_4 (by omega) (by rw [ex_4, nI_clamp (by omega)]; exact hT) _ _ _ (hP.sub [0, 1, 2] rfl) (hD.sub [0, 1, 2] (by decide) rfl) hS (lv_sub hl [0, 1, 2] rfl)

set_option maxHeartbeats 4000000 in
set_option maxRecDepth 100000 in
/-- the loop at 33 -/
theorem lp_Turtles_sumUp_33 (l : Launch) (dC : Nat → ClassId) (dI : Nat → Nat → Nat) (h0 : Nat) (t_parts : Nat) (t_dots : Nat) (t_told : Int32) (t_start : Nat) (t_goal : Nat) (t_keptParts : Nat) (t_keptDots : Nat) (t_keptTold : Int32) (cI : ClassId) (dots : Nat → Int32) (parts : Nat → Int32)  {p : Program} {e : Env} {s : State} {m : MethodId} {below : List Frame} {meth : Method} {c : Code} {A : Nat → Prop} {Q : State → Prop} {cells slots : Nat} (hx : p.tables.exec = Jvm.exec) (hb : c.code = b_Turtles_sumUp) (hml : c.maxLocals = 3) (hown : s.vm.findClass R_Turtles = some m.cls) (hts : ∀ w ∈ w_Turtles_sumUp, w.before ([.ref h0] : List Value).toArray s = true) (hK : va_K (dC, dI) classes [(cI, .int)] s) (hA : ∀ q : Nat, s.heap.size ≤ q → A q) (S : Int32) (K : ∀ (H : Heap) (locs : List Loc) (ls : Array Slot), va_P (dC, dI) classes [(h0, .inr (5, [.ref t_parts, .ref t_dots, .int t_told, .ref t_start, .ref t_goal, .ref t_keptParts, .ref t_keptDots, .int t_keptTold])), (t_dots, .inl (cI, 4096, .inl dots)), (t_parts, .inl (cI, 56, .inl parts))] H → va_D A [(h0, .inr (5, [.ref t_parts, .ref t_dots, .int t_told, .ref t_start, .ref t_goal, .ref t_keptParts, .ref t_keptDots, .int t_keptTold])), (t_dots, .inl (cI, 4096, .inl dots)), (t_parts, .inl (cI, 56, .inl parts))] → va_S A s.heap H locs → lv_has ls 3 [(2, .int (nI 56)), (1, .int S), (0, .ref h0)] → W p l e ({ frames := 0, cells := 0, slots := 0, locals := 0 } : Room) s m ([.ref h0] : List Value).toArray below meth c H locs cells slots Q (F0 m 60 ls [])) : ∀ (n : Nat) (i : Nat) (t : Int32), i + n = 56 → ts_fold parts i n t = S → ∀ (H : Heap) (locs : List Loc) (ls : Array Slot), va_P (dC, dI) classes [(h0, .inr (5, [.ref t_parts, .ref t_dots, .int t_told, .ref t_start, .ref t_goal, .ref t_keptParts, .ref t_keptDots, .int t_keptTold])), (t_dots, .inl (cI, 4096, .inl dots)), (t_parts, .inl (cI, 56, .inl parts))] H → va_D A [(h0, .inr (5, [.ref t_parts, .ref t_dots, .int t_told, .ref t_start, .ref t_goal, .ref t_keptParts, .ref t_keptDots, .int t_keptTold])), (t_dots, .inl (cI, 4096, .inl dots)), (t_parts, .inl (cI, 56, .inl parts))] → va_S A s.heap H locs → lv_has ls 3 [(2, .int (nI i)), (1, .int t), (0, .ref h0)] → W p l e ({ frames := 0, cells := 0, slots := 0, locals := 0 } : Room) s m ([.ref h0] : List Value).toArray below meth c H locs cells slots Q (F0 m 33 ls []) := by
  have htt : ∀ w ∈ tw_T, w.before _ s = true := fun w h => hts w (List.mem_cons_of_mem _ h)
  intro n
  induction n with
  | zero =>
    intro i t hi hT H locs ls hP hD hS hl
    refine lv_iload_n hx hb d_Turtles_sumUp_33 rfl (lv_at hl 0 rfl) ?_
    refine lv_aload_n hx hb d_Turtles_sumUp_34 rfl (lv_at hl 2 rfl) ?_
    refine va_get (D := (dC, dI)) (ci := 5) (v := .ref t_parts) (C := R_Turtles) (T := F_Turtles) (N := 8) hx hb htt iw_Turtles hown hK hP 0 rfl rfl 0 (by decide) (htt _ lk_Turtles_11) (fun _ h9 => h9) rfl d_Turtles_sumUp_35 ?_
    refine va_alen (v := nI 56) hx hb hK hP 2 0 rfl rfl rfl d_Turtles_sumUp_38 ?_
    refine lv_icmp_ge (tgt := 60) hx hb d_Turtles_sumUp_39 (by decide) (fun c_1 => ?_) (fun c_1 => ?_)
    · obtain rfl : i = 56 := by omega
      subst hT
      exact K _ _ _ (hP.sub [0, 1, 2] rfl) (hD.sub [0, 1, 2] (by decide) rfl) hS (lv_sub hl [0, 1, 2] rfl)
    · exact absurd (nI_le (by omega) (by omega)) c_1
  | succ n ih =>
    intro i t hi hT H locs ls hP hD hS hl
    refine lv_iload_n hx hb d_Turtles_sumUp_33 rfl (lv_at hl 0 rfl) ?_
    refine lv_aload_n hx hb d_Turtles_sumUp_34 rfl (lv_at hl 2 rfl) ?_
    refine va_get (D := (dC, dI)) (ci := 5) (v := .ref t_parts) (C := R_Turtles) (T := F_Turtles) (N := 8) hx hb htt iw_Turtles hown hK hP 0 rfl rfl 0 (by decide) (htt _ lk_Turtles_11) (fun _ h9 => h9) rfl d_Turtles_sumUp_35 ?_
    refine va_alen (v := nI 56) hx hb hK hP 2 0 rfl rfl rfl d_Turtles_sumUp_38 ?_
    refine lv_icmp_ge (tgt := 60) hx hb d_Turtles_sumUp_39 (by decide) (fun c_2 => ?_) (fun c_2 => ?_)
    · exact absurd c_2 (nI_ge (by omega) (by omega))
    · refine lv_bipush (v := 31) hx hb d_Turtles_sumUp_42 (by decide) ?_
      refine lv_iload_n hx hb d_Turtles_sumUp_44 rfl (lv_at hl 1 rfl) ?_
      refine lv_imul hx hb d_Turtles_sumUp_45 ?_
      refine lv_aload_n hx hb d_Turtles_sumUp_46 rfl (lv_at hl 2 rfl) ?_
      refine va_get (D := (dC, dI)) (ci := 5) (v := .ref t_parts) (C := R_Turtles) (T := F_Turtles) (N := 8) hx hb htt iw_Turtles hown hK hP 0 rfl rfl 0 (by decide) (htt _ lk_Turtles_11) (fun _ h9 => h9) rfl d_Turtles_sumUp_47 ?_
      refine lv_iload_n hx hb d_Turtles_sumUp_50 rfl (lv_at hl 0 rfl) ?_
      have h_3 : vp_in (nI i) 56 := vp_in_nI (by omega) (by decide)
      refine va_iald hx hb hK hP 2 0 rfl rfl h_3 d_Turtles_sumUp_51 ?_
      refine lv_iadd hx hb d_Turtles_sumUp_52 ?_
      refine lv_topi (fun x_4 ex_4 => ?_)
      refine lv_istore_n (lv' := [(1, .int x_4), (2, .int (nI i)), (0, .ref h0)]) hx hb d_Turtles_sumUp_53 rfl hl (by decide) rfl (fun ls hl => ?_)
      refine lv_iinc (v := nI (i + 1)) (lv' := [(2, .int (nI (i + 1))), (1, .int x_4), (0, .ref h0)]) hx hb d_Turtles_sumUp_54 hl (k := 1) rfl (nI_1 _) (by decide) rfl (fun ls hl => ?_)
      refine lv_goto (tgt := 33) hx hb d_Turtles_sumUp_57 (by decide) ?_
      exact ih (i + 1) x_4 (by omega) (by rw [ex_4, nI_clamp (by omega)]; exact hT) _ _ _ (hP.sub [0, 1, 2] rfl) (hD.sub [0, 1, 2] (by decide) rfl) hS (lv_sub hl [0, 1, 2] rfl)

set_option maxHeartbeats 4000000 in
set_option maxRecDepth 100000 in
/-- the sum over all DOTS and turtles -/
theorem c_Turtles_sumUp (l : Launch) (dC : Nat → ClassId) (dI : Nat → Nat → Nat) (sz : Nat) (h0 : Nat) (t_parts : Nat) (t_dots : Nat) (t_told : Int32) (t_start : Nat) (t_goal : Nat) (t_keptParts : Nat) (t_keptDots : Nat) (t_keptTold : Int32) (cI : ClassId) (dots : Nat → Int32) (parts : Nat → Int32)  : Met l y_Turtles_sumUp w_Turtles_sumUp ({ frames := 0, cells := 0, slots := 0, locals := 0 }) (va_Pc [.ref h0] (fun U => U.heap.size = sz ∧ va_P (dC, dI) classes [(h0, .inr (5, [.ref t_parts, .ref t_dots, .int t_told, .ref t_start, .ref t_goal, .ref t_keptParts, .ref t_keptDots, .int t_keptTold])), (t_dots, .inl (cI, 4096, .inl dots)), (t_parts, .inl (cI, 56, .inl parts))] U.heap ∧ va_K (dC, dI) classes [(cI, .int)] U ∧ va_D (fun _ => True) [(h0, .inr (5, [.ref t_parts, .ref t_dots, .int t_told, .ref t_start, .ref t_goal, .ref t_keptParts, .ref t_keptDots, .int t_keptTold])), (t_dots, .inl (cI, 4096, .inl dots)), (t_parts, .inl (cI, 56, .inl parts))])) (va_Qi (fun (r : Int32) (_ : Unit) => r = ts_sumUp dots parts) (fun (_ : Unit) t => va_P (dC, dI) classes [(h0, .inr (5, [.ref t_parts, .ref t_dots, .int t_told, .ref t_start, .ref t_goal, .ref t_keptParts, .ref t_keptDots, .int t_keptTold])), (t_dots, .inl (cI, 4096, .inl dots)), (t_parts, .inl (cI, 56, .inl parts))] t.heap ∧ va_K (dC, dI) classes [(cI, .int)] t ∧ va_D (va_A [(h0, .inr (5, [.ref t_parts, .ref t_dots, .int t_told, .ref t_start, .ref t_goal, .ref t_keptParts, .ref t_keptDots, .int t_keptTold])), (t_dots, .inl (cI, 4096, .inl dots)), (t_parts, .inl (cI, 56, .inl parts))] sz) [(h0, .inr (5, [.ref t_parts, .ref t_dots, .int t_told, .ref t_start, .ref t_goal, .ref t_keptParts, .ref t_keptDots, .int t_keptTold])), (t_dots, .inl (cI, 4096, .inl dots)), (t_parts, .inl (cI, 56, .inl parts))]) (va_A [(h0, .inr (5, [.ref t_parts, .ref t_dots, .int t_told, .ref t_start, .ref t_goal, .ref t_keptParts, .ref t_keptDots, .int t_keptTold])), (t_dots, .inl (cI, 4096, .inl dots)), (t_parts, .inl (cI, 56, .inl parts))] sz)) 0 0 (va_A [(h0, .inr (5, [.ref t_parts, .ref t_dots, .int t_told, .ref t_start, .ref t_goal, .ref t_keptParts, .ref t_keptDots, .int t_keptTold])), (t_dots, .inl (cI, 4096, .inl dots)), (t_parts, .inl (cI, 56, .inl parts))] sz) := by
  refine Met.ofW (cc := b_Turtles_sumUp) (maxL := 3) (ret := (some .int)) (by decide) rfl ?_
  intro p e s m args below meth c s₁ B hml hv
  obtain ⟨rfl, hsz, hP, hK, hD0⟩ := hv
  have hx := B.exec
  have hb := B.bytes
  have hr := B.returns
  have hts := atoms_spec (ws := w_Turtles_sumUp) B.pre
  have htt : ∀ w ∈ tw_T, w.before _ s = true := fun w h => hts w (List.mem_cons_of_mem _ h)
  have hown : s.vm.findClass R_Turtles = some m.cls := findClass_of_methodNamed B.named
  have hlocks := B.notSynchronized
  subst hsz
  have hD := hD0.self (sz := s.heap.size)
  generalize hAe : va_A [(h0, .inr (5, [.ref t_parts, .ref t_dots, .int t_told, .ref t_start, .ref t_goal, .ref t_keptParts, .ref t_keptDots, .int t_keptTold])), (t_dots, .inl (cI, 4096, .inl dots)), (t_parts, .inl (cI, 56, .inl parts))] s.heap.size = A at hD ⊢
  have hA : ∀ q : Nat, s.heap.size ≤ q → A q := fun q h => by rw [← hAe]; exact Or.inr h
  have hS : va_S A s.heap s.heap [] := va_S.rf
  have hP : va_P (dC, dI) classes [(h0, .inr (5, [.ref t_parts, .ref t_dots, .int t_told, .ref t_start, .ref t_goal, .ref t_keptParts, .ref t_keptDots, .int t_keptTold])), (t_dots, .inl (cI, 4096, .inl dots)), (t_parts, .inl (cI, 56, .inl parts))] s.heap := hP
  have hl := lv_entry ([.ref h0]) (n := 3) (Nat.le_of_ble_eq_true rfl)
  rw [lg_entry_eq]
  generalize (lg_sl ([.ref h0]) ++ List.replicate (3 - (lg_sl ([.ref h0])).length) Slot.unset).toArray = ls at hl ⊢
  have hl : lv_has ls 3 [(0, .ref h0)] := hl
  refine lv_iconst (v := 0) hx hb d_Turtles_sumUp_0 (by decide) ?_
  refine lv_istore_n (lv' := [(1, .int 0), (0, .ref h0)]) hx hb d_Turtles_sumUp_1 rfl hl (by decide) rfl (fun ls hl => ?_)
  refine lv_iconst (v := 0) hx hb d_Turtles_sumUp_2 (by decide) ?_
  refine lv_istore_n (lv' := [(2, .int 0), (1, .int 0), (0, .ref h0)]) hx hb d_Turtles_sumUp_3 rfl hl (by decide) rfl (fun ls hl => ?_)
  refine lp_Turtles_sumUp_4 l dC dI h0 t_parts t_dots t_told t_start t_goal t_keptParts t_keptDots t_keptTold cI dots parts  hx hb hml hown hts hK hA (ts_fold dots 0 4096 0) (fun H locs ls hP hD hS hl => ?_) 4096 0 0 (by omega) (rfl) _ _ _ (hP.sub [0, 1, 2] rfl) (hD.sub [0, 1, 2] (by decide) rfl) hS (lv_sub hl [0, 1, 2] rfl)
  refine lv_iconst (v := 0) hx hb d_Turtles_sumUp_31 (by decide) ?_
  refine lv_istore_n (lv' := [(2, .int 0), (1, .int (ts_fold dots 0 4096 0)), (0, .ref h0)]) hx hb d_Turtles_sumUp_32 rfl hl (by decide) rfl (fun ls hl => ?_)
  refine lp_Turtles_sumUp_33 l dC dI h0 t_parts t_dots t_told t_start t_goal t_keptParts t_keptDots t_keptTold cI dots parts  hx hb hml hown hts hK hA (ts_sumUp dots parts) (fun H locs ls hP hD hS hl => ?_) 56 0 (ts_fold dots 0 4096 0) (by omega) (rfl) _ _ _ (hP.sub [0, 1, 2] rfl) (hD.sub [0, 1, 2] (by decide) rfl) hS (lv_sub hl [0, 1, 2] rfl)
  refine lv_iload_n hx hb d_Turtles_sumUp_60 rfl (lv_at hl 1 rfl) ?_
  have hP9 := hP.sub (ws' := [(h0, .inr (5, [.ref t_parts, .ref t_dots, .int t_told, .ref t_start, .ref t_goal, .ref t_keptParts, .ref t_keptDots, .int t_keptTold])), (t_dots, .inl (cI, 4096, .inl dots)), (t_parts, .inl (cI, 56, .inl parts))]) [0, 1, 2] rfl
  have hD9 := hD.sub (ws' := [(h0, .inr (5, [.ref t_parts, .ref t_dots, .int t_told, .ref t_start, .ref t_goal, .ref t_keptParts, .ref t_keptDots, .int t_keptTold])), (t_dots, .inl (cI, 4096, .inl dots)), (t_parts, .inl (cI, 56, .inl parts))]) [0, 1, 2] (by decide) rfl
  exact W.iret (v := ts_sumUp dots parts) hx hb hr (fun t9 ht hW => ⟨⟨ts_sumUp dots parts, (), rfl, rfl, by rw [ht]; exact hP9, va_K.moved hW.alike hK, hD9⟩, hS.F ht⟩) hS.2.2 d_Turtles_sumUp_61

set_option maxHeartbeats 4000000 in
set_option maxRecDepth 100000 in
/-- sum() of the class -/
theorem c_World_sum (l : Launch) (dC : Nat → ClassId) (dI : Nat → Nat → Nat) (sz : Nat) (hw : Nat) (w_heap : Nat) (w_names : Nat) (w_procedures : Nat) (w_turtles : Nat) (w_output : Nat) (w_reader : Nat) (w_line : Nat) (w_deeds : Nat) (w_machine : Nat) (w_lineList : Int32) (w_keptTop : Int32) (w_keptSeed : Int32) (w_canGoBack : Int32) (t_parts : Nat) (t_dots : Nat) (t_told : Int32) (t_start : Nat) (t_goal : Nat) (t_keptParts : Nat) (t_keptDots : Nat) (t_keptTold : Int32) (cI : ClassId) (dots : Nat → Int32) (parts : Nat → Int32)  : Met l y_World_sum w_World_sum ({ frames := 1, cells := 0, slots := 0, locals := 22 }) (va_Pc [.ref hw] (fun U => U.heap.size = sz ∧ va_P (dC, dI) classes [(hw, .inr (0, [.ref w_heap, .ref w_names, .ref w_procedures, .ref w_turtles, .ref w_output, .ref w_reader, .ref w_line, .ref w_deeds, .ref w_machine, .int w_lineList, .int w_keptTop, .int w_keptSeed, .int w_canGoBack])), (w_turtles, .inr (5, [.ref t_parts, .ref t_dots, .int t_told, .ref t_start, .ref t_goal, .ref t_keptParts, .ref t_keptDots, .int t_keptTold])), (t_dots, .inl (cI, 4096, .inl dots)), (t_parts, .inl (cI, 56, .inl parts))] U.heap ∧ va_K (dC, dI) classes [(cI, .int)] U ∧ va_D (fun _ => True) [(hw, .inr (0, [.ref w_heap, .ref w_names, .ref w_procedures, .ref w_turtles, .ref w_output, .ref w_reader, .ref w_line, .ref w_deeds, .ref w_machine, .int w_lineList, .int w_keptTop, .int w_keptSeed, .int w_canGoBack])), (w_turtles, .inr (5, [.ref t_parts, .ref t_dots, .int t_told, .ref t_start, .ref t_goal, .ref t_keptParts, .ref t_keptDots, .int t_keptTold])), (t_dots, .inl (cI, 4096, .inl dots)), (t_parts, .inl (cI, 56, .inl parts))])) (va_Qi (fun (r : Int32) (_ : Unit) => r = ts_sumUp dots parts) (fun (_ : Unit) t => va_P (dC, dI) classes [(hw, .inr (0, [.ref w_heap, .ref w_names, .ref w_procedures, .ref w_turtles, .ref w_output, .ref w_reader, .ref w_line, .ref w_deeds, .ref w_machine, .int w_lineList, .int w_keptTop, .int w_keptSeed, .int w_canGoBack])), (w_turtles, .inr (5, [.ref t_parts, .ref t_dots, .int t_told, .ref t_start, .ref t_goal, .ref t_keptParts, .ref t_keptDots, .int t_keptTold])), (t_dots, .inl (cI, 4096, .inl dots)), (t_parts, .inl (cI, 56, .inl parts))] t.heap ∧ va_K (dC, dI) classes [(cI, .int)] t ∧ va_D (va_A [(hw, .inr (0, [.ref w_heap, .ref w_names, .ref w_procedures, .ref w_turtles, .ref w_output, .ref w_reader, .ref w_line, .ref w_deeds, .ref w_machine, .int w_lineList, .int w_keptTop, .int w_keptSeed, .int w_canGoBack])), (w_turtles, .inr (5, [.ref t_parts, .ref t_dots, .int t_told, .ref t_start, .ref t_goal, .ref t_keptParts, .ref t_keptDots, .int t_keptTold])), (t_dots, .inl (cI, 4096, .inl dots)), (t_parts, .inl (cI, 56, .inl parts))] sz) [(hw, .inr (0, [.ref w_heap, .ref w_names, .ref w_procedures, .ref w_turtles, .ref w_output, .ref w_reader, .ref w_line, .ref w_deeds, .ref w_machine, .int w_lineList, .int w_keptTop, .int w_keptSeed, .int w_canGoBack])), (w_turtles, .inr (5, [.ref t_parts, .ref t_dots, .int t_told, .ref t_start, .ref t_goal, .ref t_keptParts, .ref t_keptDots, .int t_keptTold])), (t_dots, .inl (cI, 4096, .inl dots)), (t_parts, .inl (cI, 56, .inl parts))]) (va_A [(hw, .inr (0, [.ref w_heap, .ref w_names, .ref w_procedures, .ref w_turtles, .ref w_output, .ref w_reader, .ref w_line, .ref w_deeds, .ref w_machine, .int w_lineList, .int w_keptTop, .int w_keptSeed, .int w_canGoBack])), (w_turtles, .inr (5, [.ref t_parts, .ref t_dots, .int t_told, .ref t_start, .ref t_goal, .ref t_keptParts, .ref t_keptDots, .int t_keptTold])), (t_dots, .inl (cI, 4096, .inl dots)), (t_parts, .inl (cI, 56, .inl parts))] sz)) 0 0 (va_A [(hw, .inr (0, [.ref w_heap, .ref w_names, .ref w_procedures, .ref w_turtles, .ref w_output, .ref w_reader, .ref w_line, .ref w_deeds, .ref w_machine, .int w_lineList, .int w_keptTop, .int w_keptSeed, .int w_canGoBack])), (w_turtles, .inr (5, [.ref t_parts, .ref t_dots, .int t_told, .ref t_start, .ref t_goal, .ref t_keptParts, .ref t_keptDots, .int t_keptTold])), (t_dots, .inl (cI, 4096, .inl dots)), (t_parts, .inl (cI, 56, .inl parts))] sz) := by
  refine Met.ofW (cc := b_World_sum) (maxL := 1) (ret := (some .int)) (by decide) rfl ?_
  intro p e s m args below meth c s₁ B hml hv
  obtain ⟨rfl, hsz, hP, hK, hD0⟩ := hv
  have hx := B.exec
  have hb := B.bytes
  have hr := B.returns
  have hts := atoms_spec (ws := w_World_sum) B.pre
  have htt : ∀ w ∈ tw_T, w.before _ s = true := fun w h => hts w (List.mem_cons_of_mem _ h)
  have hown : s.vm.findClass R_World = some m.cls := findClass_of_methodNamed B.named
  have hlocks := B.notSynchronized
  subst hsz
  have hD := hD0.self (sz := s.heap.size)
  generalize hAe : va_A [(hw, .inr (0, [.ref w_heap, .ref w_names, .ref w_procedures, .ref w_turtles, .ref w_output, .ref w_reader, .ref w_line, .ref w_deeds, .ref w_machine, .int w_lineList, .int w_keptTop, .int w_keptSeed, .int w_canGoBack])), (w_turtles, .inr (5, [.ref t_parts, .ref t_dots, .int t_told, .ref t_start, .ref t_goal, .ref t_keptParts, .ref t_keptDots, .int t_keptTold])), (t_dots, .inl (cI, 4096, .inl dots)), (t_parts, .inl (cI, 56, .inl parts))] s.heap.size = A at hD ⊢
  have hA : ∀ q : Nat, s.heap.size ≤ q → A q := fun q h => by rw [← hAe]; exact Or.inr h
  have hS : va_S A s.heap s.heap [] := va_S.rf
  have hP : va_P (dC, dI) classes [(hw, .inr (0, [.ref w_heap, .ref w_names, .ref w_procedures, .ref w_turtles, .ref w_output, .ref w_reader, .ref w_line, .ref w_deeds, .ref w_machine, .int w_lineList, .int w_keptTop, .int w_keptSeed, .int w_canGoBack])), (w_turtles, .inr (5, [.ref t_parts, .ref t_dots, .int t_told, .ref t_start, .ref t_goal, .ref t_keptParts, .ref t_keptDots, .int t_keptTold])), (t_dots, .inl (cI, 4096, .inl dots)), (t_parts, .inl (cI, 56, .inl parts))] s.heap := hP
  have hl := lv_entry ([.ref hw]) (n := 1) (Nat.le_of_ble_eq_true rfl)
  rw [lg_entry_eq]
  generalize (lg_sl ([.ref hw]) ++ List.replicate (1 - (lg_sl ([.ref hw])).length) Slot.unset).toArray = ls at hl ⊢
  have hl : lv_has ls 1 [(0, .ref hw)] := hl
  refine lv_aload_n hx hb d_World_sum_0 rfl (lv_at hl 0 rfl) ?_
  refine va_get (D := (dC, dI)) (ci := 0) (v := .ref w_turtles) (C := R_World) (T := F_World) (N := 13) hx hb htt iw_World hown hK hP 0 rfl rfl 3 (by decide) (htt _ lk_World_40) (fun _ h9 => h9) rfl d_World_sum_1 ?_
  have hPc := hP.sub (ws' := [(w_turtles, .inr (5, [.ref t_parts, .ref t_dots, .int t_told, .ref t_start, .ref t_goal, .ref t_keptParts, .ref t_keptDots, .int t_keptTold])), (t_dots, .inl (cI, 4096, .inl dots)), (t_parts, .inl (cI, 56, .inl parts))]) [1, 2, 3] rfl
  have hDc := hD.sub (ws' := [(w_turtles, .inr (5, [.ref t_parts, .ref t_dots, .int t_told, .ref t_start, .ref t_goal, .ref t_keptParts, .ref t_keptDots, .int t_keptTold])), (t_dots, .inl (cI, 4096, .inl dots)), (t_parts, .inl (cI, 56, .inl parts))]) [1, 2, 3] (by decide) rfl
  have hKc := hK.sub (tys' := [(cI, .int)]) [0] rfl
  have hFc := va_free (wc := [(w_turtles, .inr (5, [.ref t_parts, .ref t_dots, .int t_told, .ref t_start, .ref t_goal, .ref t_keptParts, .ref t_keptDots, .int t_keptTold])), (t_dots, .inl (cI, 4096, .inl dots)), (t_parts, .inl (cI, 56, .inl parts))]) hD hS hA [1, 2, 3] rfl
  refine va_calli (va_runV (As := []) (rest := []) ⟨hx, hb, hml, hown, hts⟩ (c_Turtles_sumUp l dC dI s.heap.size w_turtles t_parts t_dots t_told t_start t_goal t_keptParts t_keptDots t_keptTold cI dots parts) (cwV 0 hts (tw_GV tw_cons cw_Turtles_sumUp lk_World_248 in_Turtles_sumUp sel_Turtles_sumUp ini_Turtles) rfl rfl rfl (by decide +kernel) ⟨Nat.le_of_ble_eq_true rfl, Nat.le_of_ble_eq_true rfl⟩) ⟨fun a U g mk q => by obtain ⟨q0, q1, qP, qK, qD⟩ := q; exact ⟨q0, q1, qP, va_K.moved (u := U) (U := U.calling g mk a) (Vm.Alike.refl U.vm) qK, qD⟩, va_recv hKc hPc (ci := 5) (q0 := 0) rfl rfl, fun U hU hW => ⟨rfl, by rw [hU], by rw [hU]; exact hPc, va_K.moved hW.alike hKc, hDc.weaken (fun _ _ _ _ => trivial)⟩⟩ rfl rfl hl.1 rfl (lv_room (Nat.le_of_ble_eq_true rfl)) d_World_sum_4 ⟨Nat.le_of_ble_eq_true rfl, Nat.le_of_ble_eq_true rfl⟩) hS (fun q _ h => hFc q h) hFc (fun r9 u9 t9 H1 locs ht hvm e9 hB hz1 hk1 hS => ?_)
  obtain ⟨hP1, hK1, hD1⟩ := hB
  rw [ht] at hP1
  obtain ⟨hP, hD⟩ := va_join (wr := [(hw, .inr (0, [.ref w_heap, .ref w_names, .ref w_procedures, .ref w_turtles, .ref w_output, .ref w_reader, .ref w_line, .ref w_deeds, .ref w_machine, .int w_lineList, .int w_keptTop, .int w_keptSeed, .int w_canGoBack]))]) (w1 := [(w_turtles, .inr (5, [.ref t_parts, .ref t_dots, .int t_told, .ref t_start, .ref t_goal, .ref t_keptParts, .ref t_keptDots, .int t_keptTold])), (t_dots, .inl (cI, 4096, .inl dots)), (t_parts, .inl (cI, 56, .inl parts))]) hP hD [1, 2, 3] [0] rfl rfl (by decide) (by decide) hk1 hFc hP1 hD1
  subst e9
  clear hP1 hD1 hK1 hvm hz1 hk1 hFc hKc hDc hPc
  subst ht
  generalize t9.heap = H at hP hS ⊢
  have hP : va_P (dC, dI) classes [(hw, .inr (0, [.ref w_heap, .ref w_names, .ref w_procedures, .ref w_turtles, .ref w_output, .ref w_reader, .ref w_line, .ref w_deeds, .ref w_machine, .int w_lineList, .int w_keptTop, .int w_keptSeed, .int w_canGoBack])), (w_turtles, .inr (5, [.ref t_parts, .ref t_dots, .int t_told, .ref t_start, .ref t_goal, .ref t_keptParts, .ref t_keptDots, .int t_keptTold])), (t_dots, .inl (cI, 4096, .inl dots)), (t_parts, .inl (cI, 56, .inl parts))] H := hP
  have hD : va_D A [(hw, .inr (0, [.ref w_heap, .ref w_names, .ref w_procedures, .ref w_turtles, .ref w_output, .ref w_reader, .ref w_line, .ref w_deeds, .ref w_machine, .int w_lineList, .int w_keptTop, .int w_keptSeed, .int w_canGoBack])), (w_turtles, .inr (5, [.ref t_parts, .ref t_dots, .int t_told, .ref t_start, .ref t_goal, .ref t_keptParts, .ref t_keptDots, .int t_keptTold])), (t_dots, .inl (cI, 4096, .inl dots)), (t_parts, .inl (cI, 56, .inl parts))] := hD
  have hP9 := hP.sub (ws' := [(hw, .inr (0, [.ref w_heap, .ref w_names, .ref w_procedures, .ref w_turtles, .ref w_output, .ref w_reader, .ref w_line, .ref w_deeds, .ref w_machine, .int w_lineList, .int w_keptTop, .int w_keptSeed, .int w_canGoBack])), (w_turtles, .inr (5, [.ref t_parts, .ref t_dots, .int t_told, .ref t_start, .ref t_goal, .ref t_keptParts, .ref t_keptDots, .int t_keptTold])), (t_dots, .inl (cI, 4096, .inl dots)), (t_parts, .inl (cI, 56, .inl parts))]) [0, 1, 2, 3] rfl
  have hD9 := hD.sub (ws' := [(hw, .inr (0, [.ref w_heap, .ref w_names, .ref w_procedures, .ref w_turtles, .ref w_output, .ref w_reader, .ref w_line, .ref w_deeds, .ref w_machine, .int w_lineList, .int w_keptTop, .int w_keptSeed, .int w_canGoBack])), (w_turtles, .inr (5, [.ref t_parts, .ref t_dots, .int t_told, .ref t_start, .ref t_goal, .ref t_keptParts, .ref t_keptDots, .int t_keptTold])), (t_dots, .inl (cI, 4096, .inl dots)), (t_parts, .inl (cI, 56, .inl parts))]) [0, 1, 2, 3] (by decide) rfl
  exact W.iret (v := ts_sumUp dots parts) hx hb hr (fun t9 ht hW => ⟨⟨ts_sumUp dots parts, (), rfl, rfl, by rw [ht]; exact hP9, va_K.moved hW.alike hK, hD9⟩, hS.F ht⟩) hS.2.2 d_World_sum_7
