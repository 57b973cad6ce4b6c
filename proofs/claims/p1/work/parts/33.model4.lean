theorem d_Model_put_0 : decode b_Model_put 0 = .ok (.aload_n 0, 1) := by decide +kernel
theorem d_Model_put_1 : decode b_Model_put 1 = .ok (.getfield 35, 3) := by decide +kernel
theorem d_Model_put_4 : decode b_Model_put 4 = .ok (.aload_n 0, 1) := by decide +kernel
theorem d_Model_put_5 : decode b_Model_put 5 = .ok (.getfield 32, 3) := by decide +kernel
theorem d_Model_put_8 : decode b_Model_put 8 = .ok (.lload_n 1, 1) := by decide +kernel
theorem d_Model_put_9 : decode b_Model_put 9 = .ok (.lastore, 1) := by decide +kernel
theorem d_Model_put_10 : decode b_Model_put 10 = .ok (.aload_n 0, 1) := by decide +kernel
theorem d_Model_put_11 : decode b_Model_put 11 = .ok (.dup, 1) := by decide +kernel
theorem d_Model_put_12 : decode b_Model_put 12 = .ok (.getfield 32, 3) := by decide +kernel
theorem d_Model_put_15 : decode b_Model_put 15 = .ok (.iconst 1, 1) := by decide +kernel
theorem d_Model_put_16 : decode b_Model_put 16 = .ok (.iadd, 1) := by decide +kernel
theorem d_Model_put_17 : decode b_Model_put 17 = .ok (.putfield 32, 3) := by decide +kernel
theorem d_Model_put_20 : decode b_Model_put 20 = .ok (.return_, 1) := by decide +kernel
theorem lk_Model_35 : Cond.fieldLink "TurtleWorldModel" 35 "TurtleWorldModel" "cell" "[J" ∈ tw_T := tw_i8 88 (by decide +kernel) (by decide +kernel)
theorem lk_Model_32 : Cond.fieldLink "TurtleWorldModel" 32 "TurtleWorldModel" "cells" "I" ∈ tw_T := tw_i8 98 (by decide +kernel) (by decide +kernel)
theorem d_Model_size_0 : decode b_Model_size 0 = .ok (.aload_n 0, 1) := by decide +kernel
theorem d_Model_size_1 : decode b_Model_size 1 = .ok (.getfield 47, 3) := by decide +kernel
theorem d_Model_size_4 : decode b_Model_size 4 = .ok (.lload_n 1, 1) := by decide +kernel
theorem d_Model_size_5 : decode b_Model_size 5 = .ok (.invokestatic 64, 3) := by decide +kernel
theorem d_Model_size_8 : decode b_Model_size 8 = .ok (.iaload, 1) := by decide +kernel
theorem d_Model_size_9 : decode b_Model_size 9 = .ok (.ireturn, 1) := by decide +kernel
theorem lk_Model_47 : Cond.fieldLink "TurtleWorldModel" 47 "TurtleWorldModel" "listSize" "[I" ∈ tw_T := tw_i8 91 (by decide +kernel) (by decide +kernel)
theorem lk_Model_64 : Cond.methodLink "TurtleWorldModel" 64 ⟨"TurtleWorldModel", "what", "(J)I"⟩ ∈ tw_T := tw_i10 51 (by decide +kernel) (by decide +kernel)
theorem st_Model_what : Cond.static ⟨"TurtleWorldModel", "what", "(J)I"⟩ ∈ tw_T := tw_i10 52 (by decide +kernel) (by decide +kernel)
theorem d_Model_member_0 : decode b_Model_member 0 = .ok (.aload_n 0, 1) := by decide +kernel
theorem d_Model_member_1 : decode b_Model_member 1 = .ok (.getfield 35, 3) := by decide +kernel
theorem d_Model_member_4 : decode b_Model_member 4 = .ok (.aload_n 0, 1) := by decide +kernel
theorem d_Model_member_5 : decode b_Model_member 5 = .ok (.getfield 41, 3) := by decide +kernel
theorem d_Model_member_8 : decode b_Model_member 8 = .ok (.lload_n 1, 1) := by decide +kernel
theorem d_Model_member_9 : decode b_Model_member 9 = .ok (.invokestatic 64, 3) := by decide +kernel
theorem d_Model_member_12 : decode b_Model_member 12 = .ok (.iaload, 1) := by decide +kernel
theorem d_Model_member_13 : decode b_Model_member 13 = .ok (.iload_n 3, 1) := by decide +kernel
theorem d_Model_member_14 : decode b_Model_member 14 = .ok (.iadd, 1) := by decide +kernel
theorem d_Model_member_15 : decode b_Model_member 15 = .ok (.laload, 1) := by decide +kernel
theorem d_Model_member_16 : decode b_Model_member 16 = .ok (.lreturn, 1) := by decide +kernel
theorem lk_Model_41 : Cond.fieldLink "TurtleWorldModel" 41 "TurtleWorldModel" "listAt" "[I" ∈ tw_T := tw_i8 90 (by decide +kernel) (by decide +kernel)
theorem d_Model_sizeOf_0 : decode b_Model_sizeOf 0 = .ok (.lload_n 1, 1) := by decide +kernel
theorem d_Model_sizeOf_1 : decode b_Model_sizeOf 1 = .ok (.invokestatic 57, 3) := by decide +kernel
theorem d_Model_sizeOf_4 : decode b_Model_sizeOf 4 = .ok (.ifCond .eq 7, 3) := by decide +kernel
theorem d_Model_sizeOf_7 : decode b_Model_sizeOf 7 = .ok (.iconst 1, 1) := by decide +kernel
theorem d_Model_sizeOf_8 : decode b_Model_sizeOf 8 = .ok (.goto 31, 3) := by decide +kernel
theorem d_Model_sizeOf_11 : decode b_Model_sizeOf 11 = .ok (.lload_n 1, 1) := by decide +kernel
theorem d_Model_sizeOf_12 : decode b_Model_sizeOf 12 = .ok (.invokestatic 61, 3) := by decide +kernel
theorem d_Model_sizeOf_15 : decode b_Model_sizeOf 15 = .ok (.ifCond .eq 15, 3) := by decide +kernel
theorem d_Model_sizeOf_18 : decode b_Model_sizeOf 18 = .ok (.aload_n 0, 1) := by decide +kernel
theorem d_Model_sizeOf_19 : decode b_Model_sizeOf 19 = .ok (.getfield 22, 3) := by decide +kernel
theorem d_Model_sizeOf_22 : decode b_Model_sizeOf 22 = .ok (.lload_n 1, 1) := by decide +kernel
theorem d_Model_sizeOf_23 : decode b_Model_sizeOf 23 = .ok (.invokestatic 64, 3) := by decide +kernel
theorem d_Model_sizeOf_26 : decode b_Model_sizeOf 26 = .ok (.iaload, 1) := by decide +kernel
theorem d_Model_sizeOf_27 : decode b_Model_sizeOf 27 = .ok (.goto 12, 3) := by decide +kernel
theorem d_Model_sizeOf_30 : decode b_Model_sizeOf 30 = .ok (.aload_n 0, 1) := by decide +kernel
theorem d_Model_sizeOf_31 : decode b_Model_sizeOf 31 = .ok (.getfield 50, 3) := by decide +kernel
theorem d_Model_sizeOf_34 : decode b_Model_sizeOf 34 = .ok (.lload_n 1, 1) := by decide +kernel
theorem d_Model_sizeOf_35 : decode b_Model_sizeOf 35 = .ok (.invokestatic 64, 3) := by decide +kernel
theorem d_Model_sizeOf_38 : decode b_Model_sizeOf 38 = .ok (.iaload, 1) := by decide +kernel
theorem d_Model_sizeOf_39 : decode b_Model_sizeOf 39 = .ok (.ireturn, 1) := by decide +kernel
theorem lk_Model_57 : Cond.methodLink "TurtleWorldModel" 57 ⟨"TurtleWorldModel", "isNumber", "(J)Z"⟩ ∈ tw_T := tw_i10 111 (by decide +kernel) (by decide +kernel)
theorem st_Model_isNumber : Cond.static ⟨"TurtleWorldModel", "isNumber", "(J)Z"⟩ ∈ tw_T := tw_i10 112 (by decide +kernel) (by decide +kernel)
theorem lk_Model_61 : Cond.methodLink "TurtleWorldModel" 61 ⟨"TurtleWorldModel", "isWord", "(J)Z"⟩ ∈ tw_T := tw_i10 45 (by decide +kernel) (by decide +kernel)
theorem st_Model_isWord : Cond.static ⟨"TurtleWorldModel", "isWord", "(J)Z"⟩ ∈ tw_T := tw_i10 46 (by decide +kernel) (by decide +kernel)
theorem lk_Model_50 : Cond.fieldLink "TurtleWorldModel" 50 "TurtleWorldModel" "weight" "[I" ∈ tw_T := tw_i8 92 (by decide +kernel) (by decide +kernel)
theorem lk_Model_22 : Cond.fieldLink "TurtleWorldModel" 22 "TurtleWorldModel" "wordSize" "[I" ∈ tw_T := tw_i8 82 (by decide +kernel) (by decide +kernel)
theorem d_Model_say_0 : decode b_Model_say 0 = .ok (.aload_n 0, 1) := by decide +kernel
theorem d_Model_say_1 : decode b_Model_say 1 = .ok (.getfield 105, 3) := by decide +kernel
theorem d_Model_say_4 : decode b_Model_say 4 = .ok (.aload_n 0, 1) := by decide +kernel
theorem d_Model_say_5 : decode b_Model_say 5 = .ok (.getfield 108, 3) := by decide +kernel
theorem d_Model_say_8 : decode b_Model_say 8 = .ok (.iload_n 1, 1) := by decide +kernel
theorem d_Model_say_9 : decode b_Model_say 9 = .ok (.i2b, 1) := by decide +kernel
theorem d_Model_say_10 : decode b_Model_say 10 = .ok (.bastore, 1) := by decide +kernel
theorem d_Model_say_11 : decode b_Model_say 11 = .ok (.aload_n 0, 1) := by decide +kernel
theorem d_Model_say_12 : decode b_Model_say 12 = .ok (.dup, 1) := by decide +kernel
theorem d_Model_say_13 : decode b_Model_say 13 = .ok (.getfield 108, 3) := by decide +kernel
theorem d_Model_say_16 : decode b_Model_say 16 = .ok (.iconst 1, 1) := by decide +kernel
theorem d_Model_say_17 : decode b_Model_say 17 = .ok (.iadd, 1) := by decide +kernel
theorem d_Model_say_18 : decode b_Model_say 18 = .ok (.putfield 108, 3) := by decide +kernel
theorem d_Model_say_21 : decode b_Model_say 21 = .ok (.return_, 1) := by decide +kernel
theorem lk_Model_105 : Cond.fieldLink "TurtleWorldModel" 105 "TurtleWorldModel" "shown" "[B" ∈ tw_T := tw_i8 102 (by decide +kernel) (by decide +kernel)
theorem lk_Model_108 : Cond.fieldLink "TurtleWorldModel" 108 "TurtleWorldModel" "shownSize" "I" ∈ tw_T := tw_i8 103 (by decide +kernel) (by decide +kernel)
theorem d_Model_newWord_0 : decode b_Model_newWord 0 = .ok (.aload_n 0, 1) := by decide +kernel
theorem d_Model_newWord_1 : decode b_Model_newWord 1 = .ok (.getfield 15, 3) := by decide +kernel
theorem d_Model_newWord_4 : decode b_Model_newWord 4 = .ok (.aload_n 0, 1) := by decide +kernel
theorem d_Model_newWord_5 : decode b_Model_newWord 5 = .ok (.getfield 19, 3) := by decide +kernel
theorem d_Model_newWord_8 : decode b_Model_newWord 8 = .ok (.iload_n 1, 1) := by decide +kernel
theorem d_Model_newWord_9 : decode b_Model_newWord 9 = .ok (.iastore, 1) := by decide +kernel
theorem d_Model_newWord_10 : decode b_Model_newWord 10 = .ok (.aload_n 0, 1) := by decide +kernel
theorem d_Model_newWord_11 : decode b_Model_newWord 11 = .ok (.getfield 22, 3) := by decide +kernel
theorem d_Model_newWord_14 : decode b_Model_newWord 14 = .ok (.aload_n 0, 1) := by decide +kernel
theorem d_Model_newWord_15 : decode b_Model_newWord 15 = .ok (.getfield 19, 3) := by decide +kernel
theorem d_Model_newWord_18 : decode b_Model_newWord 18 = .ok (.iload_n 2, 1) := by decide +kernel
theorem d_Model_newWord_19 : decode b_Model_newWord 19 = .ok (.iastore, 1) := by decide +kernel
theorem d_Model_newWord_20 : decode b_Model_newWord 20 = .ok (.aload_n 0, 1) := by decide +kernel
theorem d_Model_newWord_21 : decode b_Model_newWord 21 = .ok (.getfield 25, 3) := by decide +kernel
theorem d_Model_newWord_24 : decode b_Model_newWord 24 = .ok (.aload_n 0, 1) := by decide +kernel
theorem d_Model_newWord_25 : decode b_Model_newWord 25 = .ok (.getfield 19, 3) := by decide +kernel
theorem d_Model_newWord_28 : decode b_Model_newWord 28 = .ok (.iconst 0, 1) := by decide +kernel
theorem d_Model_newWord_29 : decode b_Model_newWord 29 = .ok (.iastore, 1) := by decide +kernel
theorem d_Model_newWord_30 : decode b_Model_newWord 30 = .ok (.aload_n 0, 1) := by decide +kernel
theorem d_Model_newWord_31 : decode b_Model_newWord 31 = .ok (.getfield 28, 3) := by decide +kernel
theorem d_Model_newWord_34 : decode b_Model_newWord 34 = .ok (.aload_n 0, 1) := by decide +kernel
theorem d_Model_newWord_35 : decode b_Model_newWord 35 = .ok (.getfield 19, 3) := by decide +kernel
theorem d_Model_newWord_38 : decode b_Model_newWord 38 = .ok (.ldc2_w 7, 3) := by decide +kernel
theorem d_Model_newWord_41 : decode b_Model_newWord 41 = .ok (.lastore, 1) := by decide +kernel
theorem d_Model_newWord_42 : decode b_Model_newWord 42 = .ok (.aload_n 0, 1) := by decide +kernel
theorem d_Model_newWord_43 : decode b_Model_newWord 43 = .ok (.dup, 1) := by decide +kernel
theorem d_Model_newWord_44 : decode b_Model_newWord 44 = .ok (.getfield 19, 3) := by decide +kernel
theorem d_Model_newWord_47 : decode b_Model_newWord 47 = .ok (.iconst 1, 1) := by decide +kernel
theorem d_Model_newWord_48 : decode b_Model_newWord 48 = .ok (.iadd, 1) := by decide +kernel
theorem d_Model_newWord_49 : decode b_Model_newWord 49 = .ok (.putfield 19, 3) := by decide +kernel
theorem d_Model_newWord_52 : decode b_Model_newWord 52 = .ok (.aload_n 0, 1) := by decide +kernel
theorem d_Model_newWord_53 : decode b_Model_newWord 53 = .ok (.getfield 19, 3) := by decide +kernel
theorem d_Model_newWord_56 : decode b_Model_newWord 56 = .ok (.iconst 1, 1) := by decide +kernel
theorem d_Model_newWord_57 : decode b_Model_newWord 57 = .ok (.isub, 1) := by decide +kernel
theorem d_Model_newWord_58 : decode b_Model_newWord 58 = .ok (.ireturn, 1) := by decide +kernel
theorem lk_Model_15 : Cond.fieldLink "TurtleWorldModel" 15 "TurtleWorldModel" "wordAt" "[I" ∈ tw_T := tw_i8 81 (by decide +kernel) (by decide +kernel)
theorem lk_Model_19 : Cond.fieldLink "TurtleWorldModel" 19 "TurtleWorldModel" "words" "I" ∈ tw_T := tw_i8 97 (by decide +kernel) (by decide +kernel)
theorem lk_Model_25 : Cond.fieldLink "TurtleWorldModel" 25 "TurtleWorldModel" "meaning" "[I" ∈ tw_T := tw_i8 85 (by decide +kernel) (by decide +kernel)
theorem lk_Model_28 : Cond.fieldLink "TurtleWorldModel" 28 "TurtleWorldModel" "quote" "[J" ∈ tw_T := tw_i8 87 (by decide +kernel) (by decide +kernel)
def m_Model_put_w0_i (v_i : Nat → Int32) : Nat → Int32 := upd v_i 20 ((v_i 20) + 1)
def m_Model_put_w1 (v_i : Nat → Int32) (v_cell_v : Nat → Int64) (v : Int64) : Nat → Int64 := vp_updL v_cell_v (v_i 20).toNatClampNeg v
set_option maxHeartbeats 4000000 in
set_option maxRecDepth 100000 in
theorem c_Model_put (l : Launch) (dC : Nat → ClassId) (dI : Nat → Nat → Nat) (sz : Nat) (h0 : Nat) (v_r : Nat → Nat) (v_i : Nat → Int32) (v_j : Nat → Int64) (v_cell_v : Nat → Int64) (cI : ClassId) (cJ : ClassId) (cB : ClassId) (v : Int64) (hc1 : vp_in (v_i 20) 90000) : Met l y_Model_put w_Model_put ({ frames := 0, cells := 0, slots := 0, locals := 0 }) (va_Pc [.ref h0, .long v] (fun U => U.heap.size = sz ∧ va_P (dC, dI) classes [(h0, .inr (12, mo v_r v_i v_j)), (v_r 10, .inl (cJ, 90000, .inr (.inl v_cell_v)))] U.heap ∧ va_K (dC, dI) classes [(cI, .int), (cJ, .long), (cB, .byte)] U ∧ va_D (fun _ => True) [(h0, .inr (12, mo v_r v_i v_j)), (v_r 10, .inl (cJ, 90000, .inr (.inl v_cell_v)))])) (va_Qv (fun (_ : Unit) => True) (fun (_ : Unit) t => va_P (dC, dI) classes [(h0, .inr (12, mo v_r (m_Model_put_w0_i v_i) v_j)), (v_r 10, .inl (cJ, 90000, .inr (.inl (m_Model_put_w1 v_i v_cell_v v))))] t.heap ∧ va_K (dC, dI) classes [(cI, .int), (cJ, .long), (cB, .byte)] t ∧ va_D (va_A [(h0, .inr (12, mo v_r v_i v_j)), (v_r 10, .inl (cJ, 90000, .inr (.inl v_cell_v)))] sz) [(h0, .inr (12, mo v_r (m_Model_put_w0_i v_i) v_j)), (v_r 10, .inl (cJ, 90000, .inr (.inl (m_Model_put_w1 v_i v_cell_v v))))]) (va_A [(h0, .inr (12, mo v_r v_i v_j)), (v_r 10, .inl (cJ, 90000, .inr (.inl v_cell_v)))] sz)) 0 0 (va_A [(h0, .inr (12, mo v_r v_i v_j)), (v_r 10, .inl (cJ, 90000, .inr (.inl v_cell_v)))] sz) := by
  refine Met.ofW (cc := b_Model_put) (maxL := 3) (ret := none) (by decide) rfl ?_
  intro p e s m args below meth c s₁ B hml hv
  obtain ⟨rfl, hsz, hP, hK, hD0⟩ := hv
  have hx := B.exec
  have hb := B.bytes
  have hr := B.returns
  have hts := atoms_spec (ws := w_Model_put) B.pre
  have htt : ∀ w ∈ tw_T, w.before _ s = true := fun w h => hts w (List.mem_cons_of_mem _ h)
  have hown : s.vm.findClass R_Model = some m.cls := findClass_of_methodNamed B.named
  have hlocks := B.notSynchronized
  subst hsz
  have hD := hD0.self (sz := s.heap.size)
  generalize hAe : va_A [(h0, .inr (12, mo v_r v_i v_j)), (v_r 10, .inl (cJ, 90000, .inr (.inl v_cell_v)))] s.heap.size = A at hD ⊢
  have hA : ∀ q : Nat, s.heap.size ≤ q → A q := fun q h => by rw [← hAe]; exact Or.inr h
  have hS : va_S A s.heap s.heap [] := va_S.rf
  have hP : va_P (dC, dI) classes [(h0, .inr (12, mo v_r v_i v_j)), (v_r 10, .inl (cJ, 90000, .inr (.inl v_cell_v)))] s.heap := hP
  have hl := lv_entry ([.ref h0, .long v]) (n := 3) (Nat.le_of_ble_eq_true rfl)
  rw [lg_entry_eq]
  generalize (lg_sl ([.ref h0, .long v]) ++ List.replicate (3 - (lg_sl ([.ref h0, .long v])).length) Slot.unset).toArray = ls at hl ⊢
  have hl : lv_has ls 3 [(0, .ref h0), (1, .long v)] := hl
  refine lv_aload_n hx hb d_Model_put_0 rfl (lv_at hl 0 rfl) ?_
  refine va_get (D := (dC, dI)) (ci := 12) (v := .ref (v_r 10)) (C := R_Model) (T := F_Model) (N := 127) hx hb htt iw_Model hown hK hP 0 rfl rfl 10 (by decide) (htt _ lk_Model_35) (fun _ h9 => h9) rfl d_Model_put_1 ?_
  refine lv_aload_n hx hb d_Model_put_4 rfl (lv_at hl 0 rfl) ?_
  refine va_get (D := (dC, dI)) (ci := 12) (v := .int (v_i 20)) (C := R_Model) (T := F_Model) (N := 127) hx hb htt iw_Model hown hK hP 0 rfl rfl 20 (by decide) (htt _ lk_Model_32) (fun _ h9 => h9) rfl d_Model_put_5 ?_
  refine lv_lload_n hx hb d_Model_put_8 rfl (lv_at hl 1 rfl) ?_
  have h_1 : vp_in (v_i 20) 90000 := hc1
  refine va_last hx hb hK hP hD hS 1 1 rfl rfl h_1 d_Model_put_9 (fun H locs hP hD hS => ?_)
  have hP : va_P (dC, dI) classes [(h0, .inr (12, mo v_r v_i v_j)), (v_r 10, .inl (cJ, 90000, .inr (.inl (vp_updL v_cell_v (v_i 20).toNatClampNeg v))))] H := hP
  have hD : va_D A [(h0, .inr (12, mo v_r v_i v_j)), (v_r 10, .inl (cJ, 90000, .inr (.inl (vp_updL v_cell_v (v_i 20).toNatClampNeg v))))] := hD
  refine lv_aload_n hx hb d_Model_put_10 rfl (lv_at hl 0 rfl) ?_
  refine lv_dup hx hb d_Model_put_11 rfl ?_
  refine va_get (D := (dC, dI)) (ci := 12) (v := .int (v_i 20)) (C := R_Model) (T := F_Model) (N := 127) hx hb htt iw_Model hown hK hP 0 rfl rfl 20 (by decide) (htt _ lk_Model_32) (fun _ h9 => h9) rfl d_Model_put_12 ?_
  refine lv_iconst (v := 1) hx hb d_Model_put_15 (by decide) ?_
  refine lv_iadd hx hb d_Model_put_16 ?_
  refine lv_topi (fun x_2 ex_2 => ?_)
  refine va_put (D := (dC, dI)) (ci := 12) (v := .int x_2) (ty := .int) (C := R_Model) (T := F_Model) (N := 127) hx hb htt iw_Model t_Model t_Model_ok n_Model hown hK hP hD hS 0 rfl rfl 20 (by decide) (htt _ lk_Model_32) (fun _ h9 => h9) rfl (by decide +kernel) rfl rfl (Nat.le_of_ble_eq_true rfl) d_Model_put_17 (fun H locs hP hD hS => ?_)
  have hP : va_P (dC, dI) classes [(h0, .inr (12, mo v_r (upd v_i 20 x_2) v_j)), (v_r 10, .inl (cJ, 90000, .inr (.inl (vp_updL v_cell_v (v_i 20).toNatClampNeg v))))] H := hP
  have hD : va_D A [(h0, .inr (12, mo v_r (upd v_i 20 x_2) v_j)), (v_r 10, .inl (cJ, 90000, .inr (.inl (vp_updL v_cell_v (v_i 20).toNatClampNeg v))))] := hD
  subst ex_2
  have hP9 := hP.sub (ws' := [(h0, .inr (12, mo v_r (upd v_i 20 ((v_i 20) + 1)) v_j)), (v_r 10, .inl (cJ, 90000, .inr (.inl (vp_updL v_cell_v (v_i 20).toNatClampNeg v))))]) [0, 1] rfl
  have hD9 := hD.sub (ws' := [(h0, .inr (12, mo v_r (upd v_i 20 ((v_i 20) + 1)) v_j)), (v_r 10, .inl (cJ, 90000, .inr (.inl (vp_updL v_cell_v (v_i 20).toNatClampNeg v))))]) [0, 1] (by decide) rfl
  have eW : [(h0, .inr (12, mo v_r (upd v_i 20 ((v_i 20) + 1)) v_j)), (v_r 10, .inl (cJ, 90000, .inr (.inl (vp_updL v_cell_v (v_i 20).toNatClampNeg v))))] = ([(h0, .inr (12, mo v_r (m_Model_put_w0_i v_i) v_j)), (v_r 10, .inl (cJ, 90000, .inr (.inl (m_Model_put_w1 v_i v_cell_v v))))] : va_W) := by unfold m_Model_put_w0_i m_Model_put_w1; rfl
  rw [eW] at hP9 hD9
  exact W.vret hx hb hr (fun t9 ht hW => ⟨⟨(), rfl, trivial, by rw [ht]; exact hP9, va_K.moved hW.alike hK, hD9⟩, hS.F ht⟩) hS.2.2 d_Model_put_20

def m_Model_size_r (v_listSize_v : Nat → Int32) (v : Int64) : Int32 := v_listSize_v (m_Model_what_r v).toNatClampNeg
set_option maxHeartbeats 4000000 in
set_option maxRecDepth 100000 in
theorem c_Model_size (l : Launch) (dC : Nat → ClassId) (dI : Nat → Nat → Nat) (sz : Nat) (h0 : Nat) (v_r : Nat → Nat) (v_i : Nat → Int32) (v_j : Nat → Int64) (v_listSize_v : Nat → Int32) (cI : ClassId) (cJ : ClassId) (cB : ClassId) (v : Int64) (hw1 : vp_in (m_Model_what_r v) 90000) : Met l y_Model_size w_Model_size ({ frames := 1, cells := 0, slots := 0, locals := 21 }) (va_Pc [.ref h0, .long v] (fun U => U.heap.size = sz ∧ va_P (dC, dI) classes [(h0, .inr (12, mo v_r v_i v_j)), (v_r 13, .inl (cI, 90000, .inl v_listSize_v))] U.heap ∧ va_K (dC, dI) classes [(cI, .int), (cJ, .long), (cB, .byte)] U ∧ va_D (fun _ => True) [(h0, .inr (12, mo v_r v_i v_j)), (v_r 13, .inl (cI, 90000, .inl v_listSize_v))])) (va_Qi (fun (r : Int32) (_ : Unit) => r = m_Model_size_r v_listSize_v v) (fun (_ : Unit) t => va_P (dC, dI) classes [(h0, .inr (12, mo v_r v_i v_j)), (v_r 13, .inl (cI, 90000, .inl v_listSize_v))] t.heap ∧ va_K (dC, dI) classes [(cI, .int), (cJ, .long), (cB, .byte)] t ∧ va_D (va_A [(h0, .inr (12, mo v_r v_i v_j)), (v_r 13, .inl (cI, 90000, .inl v_listSize_v))] sz) [(h0, .inr (12, mo v_r v_i v_j)), (v_r 13, .inl (cI, 90000, .inl v_listSize_v))]) (va_A [(h0, .inr (12, mo v_r v_i v_j)), (v_r 13, .inl (cI, 90000, .inl v_listSize_v))] sz)) 0 0 (va_A [(h0, .inr (12, mo v_r v_i v_j)), (v_r 13, .inl (cI, 90000, .inl v_listSize_v))] sz) := by
  refine Met.ofW (cc := b_Model_size) (maxL := 3) (ret := (some .int)) (by decide) rfl ?_
  intro p e s m args below meth c s₁ B hml hv
  obtain ⟨rfl, hsz, hP, hK, hD0⟩ := hv
  have hx := B.exec
  have hb := B.bytes
  have hr := B.returns
  have hts := atoms_spec (ws := w_Model_size) B.pre
  have htt : ∀ w ∈ tw_T, w.before _ s = true := fun w h => hts w (List.mem_cons_of_mem _ h)
  have hown : s.vm.findClass R_Model = some m.cls := findClass_of_methodNamed B.named
  have hlocks := B.notSynchronized
  subst hsz
  have hD := hD0.self (sz := s.heap.size)
  generalize hAe : va_A [(h0, .inr (12, mo v_r v_i v_j)), (v_r 13, .inl (cI, 90000, .inl v_listSize_v))] s.heap.size = A at hD ⊢
  have hA : ∀ q : Nat, s.heap.size ≤ q → A q := fun q h => by rw [← hAe]; exact Or.inr h
  have hS : va_S A s.heap s.heap [] := va_S.rf
  have hP : va_P (dC, dI) classes [(h0, .inr (12, mo v_r v_i v_j)), (v_r 13, .inl (cI, 90000, .inl v_listSize_v))] s.heap := hP
  have hl := lv_entry ([.ref h0, .long v]) (n := 3) (Nat.le_of_ble_eq_true rfl)
  rw [lg_entry_eq]
  generalize (lg_sl ([.ref h0, .long v]) ++ List.replicate (3 - (lg_sl ([.ref h0, .long v])).length) Slot.unset).toArray = ls at hl ⊢
  have hl : lv_has ls 3 [(0, .ref h0), (1, .long v)] := hl
  refine lv_aload_n hx hb d_Model_size_0 rfl (lv_at hl 0 rfl) ?_
  refine va_get (D := (dC, dI)) (ci := 12) (v := .ref (v_r 13)) (C := R_Model) (T := F_Model) (N := 127) hx hb htt iw_Model hown hK hP 0 rfl rfl 13 (by decide) (htt _ lk_Model_47) (fun _ h9 => h9) rfl d_Model_size_1 ?_
  refine lv_lload_n hx hb d_Model_size_4 rfl (lv_at hl 1 rfl) ?_
  have hPc := hP.sub (ws' := []) [] rfl
  have hDc := hD.sub (ws' := []) [] (by decide) rfl
  have hKc := hK.sub (tys' := []) [] rfl
  have hFc := va_free (wc := []) hD hS hA [] rfl
  refine va_calli (va_runS (As := [.long v]) (rest := [.ref (v_r 13)]) ⟨hx, hb, hml, hown, hts⟩ (c_Model_what l dC dI s.heap.size v) (va_cwS 1 hts (tw_GS tw_cons cw_Model_what lk_Model_64 st_Model_what ini_Model) rfl rfl rfl (by decide +kernel) ⟨Nat.le_of_ble_eq_true rfl, Nat.le_of_ble_eq_true rfl⟩) ⟨fun a U g mk q => by obtain ⟨q0, q1, qP, qK, qD⟩ := q; exact ⟨q0, q1, qP, va_K.moved (u := U) (U := U.calling g mk a) (Vm.Alike.refl U.vm) qK, qD⟩, fun U hU hW => ⟨rfl, by rw [hU], by rw [hU]; exact hPc, va_K.moved hW.alike hKc, hDc.weaken (fun _ _ _ _ => trivial)⟩⟩ rfl rfl hl.1 rfl (lv_room (Nat.le_of_ble_eq_true rfl)) d_Model_size_5 ⟨Nat.le_of_ble_eq_true rfl, Nat.le_of_ble_eq_true rfl⟩) hS (fun q _ h => hFc q h) hFc (fun r9 u9 t9 H1 locs ht hvm e9 hB hz1 hk1 hS => ?_)
  obtain ⟨hP1, hK1, hD1⟩ := hB
  rw [ht] at hP1
  obtain ⟨hP, hD⟩ := va_join (wr := [(h0, .inr (12, mo v_r v_i v_j)), (v_r 13, .inl (cI, 90000, .inl v_listSize_v))]) (w1 := []) hP hD [] [0, 1] rfl rfl (by decide) (by decide) hk1 hFc hP1 hD1
  subst e9
  clear hP1 hD1 hK1 hvm hz1 hk1 hFc hKc hDc hPc
  subst ht
  generalize t9.heap = H at hP hS ⊢
  have hP : va_P (dC, dI) classes [(h0, .inr (12, mo v_r v_i v_j)), (v_r 13, .inl (cI, 90000, .inl v_listSize_v))] H := hP
  have hD : va_D A [(h0, .inr (12, mo v_r v_i v_j)), (v_r 13, .inl (cI, 90000, .inl v_listSize_v))] := hD
  have h_1 : vp_in (m_Model_what_r v) 90000 := hw1
  refine va_iald hx hb hK hP 1 0 rfl rfl h_1 d_Model_size_8 ?_
  have hP9 := hP.sub (ws' := [(h0, .inr (12, mo v_r v_i v_j)), (v_r 13, .inl (cI, 90000, .inl v_listSize_v))]) [0, 1] rfl
  have hD9 := hD.sub (ws' := [(h0, .inr (12, mo v_r v_i v_j)), (v_r 13, .inl (cI, 90000, .inl v_listSize_v))]) [0, 1] (by decide) rfl
  exact W.iret (v := v_listSize_v (m_Model_what_r v).toNatClampNeg) hx hb hr (fun t9 ht hW => ⟨⟨v_listSize_v (m_Model_what_r v).toNatClampNeg, (), rfl, by unfold m_Model_size_r; rfl, by rw [ht]; exact hP9, va_K.moved hW.alike hK, hD9⟩, hS.F ht⟩) hS.2.2 d_Model_size_9

def m_Model_member_r (v_cell_v : Nat → Int64) (v_listAt_v : Nat → Int32) (v : Int64) (k : Int32) : Int64 := v_cell_v ((v_listAt_v (m_Model_what_r v).toNatClampNeg) + k).toNatClampNeg
set_option maxHeartbeats 4000000 in
set_option maxRecDepth 100000 in
theorem c_Model_member (l : Launch) (dC : Nat → ClassId) (dI : Nat → Nat → Nat) (sz : Nat) (h0 : Nat) (v_r : Nat → Nat) (v_i : Nat → Int32) (v_j : Nat → Int64) (v_cell_v : Nat → Int64) (v_listAt_v : Nat → Int32) (cI : ClassId) (cJ : ClassId) (cB : ClassId) (v : Int64) (k : Int32) (hw1 : vp_in (m_Model_what_r v) 90000) (hw2 : vp_in (v_listAt_v (m_Model_what_r v).toNatClampNeg + k) 90000) : Met l y_Model_member w_Model_member ({ frames := 1, cells := 0, slots := 0, locals := 21 }) (va_Pc [.ref h0, .long v, .int k] (fun U => U.heap.size = sz ∧ va_P (dC, dI) classes [(h0, .inr (12, mo v_r v_i v_j)), (v_r 10, .inl (cJ, 90000, .inr (.inl v_cell_v))), (v_r 12, .inl (cI, 90000, .inl v_listAt_v))] U.heap ∧ va_K (dC, dI) classes [(cI, .int), (cJ, .long), (cB, .byte)] U ∧ va_D (fun _ => True) [(h0, .inr (12, mo v_r v_i v_j)), (v_r 10, .inl (cJ, 90000, .inr (.inl v_cell_v))), (v_r 12, .inl (cI, 90000, .inl v_listAt_v))])) (va_Ql (fun (r : Int64) (_ : Unit) => r = m_Model_member_r v_cell_v v_listAt_v v k) (fun (_ : Unit) t => va_P (dC, dI) classes [(h0, .inr (12, mo v_r v_i v_j)), (v_r 10, .inl (cJ, 90000, .inr (.inl v_cell_v))), (v_r 12, .inl (cI, 90000, .inl v_listAt_v))] t.heap ∧ va_K (dC, dI) classes [(cI, .int), (cJ, .long), (cB, .byte)] t ∧ va_D (va_A [(h0, .inr (12, mo v_r v_i v_j)), (v_r 10, .inl (cJ, 90000, .inr (.inl v_cell_v))), (v_r 12, .inl (cI, 90000, .inl v_listAt_v))] sz) [(h0, .inr (12, mo v_r v_i v_j)), (v_r 10, .inl (cJ, 90000, .inr (.inl v_cell_v))), (v_r 12, .inl (cI, 90000, .inl v_listAt_v))]) (va_A [(h0, .inr (12, mo v_r v_i v_j)), (v_r 10, .inl (cJ, 90000, .inr (.inl v_cell_v))), (v_r 12, .inl (cI, 90000, .inl v_listAt_v))] sz)) 0 0 (va_A [(h0, .inr (12, mo v_r v_i v_j)), (v_r 10, .inl (cJ, 90000, .inr (.inl v_cell_v))), (v_r 12, .inl (cI, 90000, .inl v_listAt_v))] sz) := by
  refine Met.ofW (cc := b_Model_member) (maxL := 4) (ret := (some .long)) (by decide) rfl ?_
  intro p e s m args below meth c s₁ B hml hv
  obtain ⟨rfl, hsz, hP, hK, hD0⟩ := hv
  have hx := B.exec
  have hb := B.bytes
  have hr := B.returns
  have hts := atoms_spec (ws := w_Model_member) B.pre
  have htt : ∀ w ∈ tw_T, w.before _ s = true := fun w h => hts w (List.mem_cons_of_mem _ h)
  have hown : s.vm.findClass R_Model = some m.cls := findClass_of_methodNamed B.named
  have hlocks := B.notSynchronized
  subst hsz
  have hD := hD0.self (sz := s.heap.size)
  generalize hAe : va_A [(h0, .inr (12, mo v_r v_i v_j)), (v_r 10, .inl (cJ, 90000, .inr (.inl v_cell_v))), (v_r 12, .inl (cI, 90000, .inl v_listAt_v))] s.heap.size = A at hD ⊢
  have hA : ∀ q : Nat, s.heap.size ≤ q → A q := fun q h => by rw [← hAe]; exact Or.inr h
  have hS : va_S A s.heap s.heap [] := va_S.rf
  have hP : va_P (dC, dI) classes [(h0, .inr (12, mo v_r v_i v_j)), (v_r 10, .inl (cJ, 90000, .inr (.inl v_cell_v))), (v_r 12, .inl (cI, 90000, .inl v_listAt_v))] s.heap := hP
  have hl := lv_entry ([.ref h0, .long v, .int k]) (n := 4) (Nat.le_of_ble_eq_true rfl)
  rw [lg_entry_eq]
  generalize (lg_sl ([.ref h0, .long v, .int k]) ++ List.replicate (4 - (lg_sl ([.ref h0, .long v, .int k])).length) Slot.unset).toArray = ls at hl ⊢
  have hl : lv_has ls 4 [(0, .ref h0), (1, .long v), (3, .int k)] := hl
  refine lv_aload_n hx hb d_Model_member_0 rfl (lv_at hl 0 rfl) ?_
  refine va_get (D := (dC, dI)) (ci := 12) (v := .ref (v_r 10)) (C := R_Model) (T := F_Model) (N := 127) hx hb htt iw_Model hown hK hP 0 rfl rfl 10 (by decide) (htt _ lk_Model_35) (fun _ h9 => h9) rfl d_Model_member_1 ?_
  refine lv_aload_n hx hb d_Model_member_4 rfl (lv_at hl 0 rfl) ?_
  refine va_get (D := (dC, dI)) (ci := 12) (v := .ref (v_r 12)) (C := R_Model) (T := F_Model) (N := 127) hx hb htt iw_Model hown hK hP 0 rfl rfl 12 (by decide) (htt _ lk_Model_41) (fun _ h9 => h9) rfl d_Model_member_5 ?_
  refine lv_lload_n hx hb d_Model_member_8 rfl (lv_at hl 1 rfl) ?_
  have hPc := hP.sub (ws' := []) [] rfl
  have hDc := hD.sub (ws' := []) [] (by decide) rfl
  have hKc := hK.sub (tys' := []) [] rfl
  have hFc := va_free (wc := []) hD hS hA [] rfl
  refine va_calli (va_runS (As := [.long v]) (rest := [.ref (v_r 12), .ref (v_r 10)]) ⟨hx, hb, hml, hown, hts⟩ (c_Model_what l dC dI s.heap.size v) (va_cwS 1 hts (tw_GS tw_cons cw_Model_what lk_Model_64 st_Model_what ini_Model) rfl rfl rfl (by decide +kernel) ⟨Nat.le_of_ble_eq_true rfl, Nat.le_of_ble_eq_true rfl⟩) ⟨fun a U g mk q => by obtain ⟨q0, q1, qP, qK, qD⟩ := q; exact ⟨q0, q1, qP, va_K.moved (u := U) (U := U.calling g mk a) (Vm.Alike.refl U.vm) qK, qD⟩, fun U hU hW => ⟨rfl, by rw [hU], by rw [hU]; exact hPc, va_K.moved hW.alike hKc, hDc.weaken (fun _ _ _ _ => trivial)⟩⟩ rfl rfl hl.1 rfl (lv_room (Nat.le_of_ble_eq_true rfl)) d_Model_member_9 ⟨Nat.le_of_ble_eq_true rfl, Nat.le_of_ble_eq_true rfl⟩) hS (fun q _ h => hFc q h) hFc (fun r9 u9 t9 H1 locs ht hvm e9 hB hz1 hk1 hS => ?_)
  obtain ⟨hP1, hK1, hD1⟩ := hB
  rw [ht] at hP1
  obtain ⟨hP, hD⟩ := va_join (wr := [(h0, .inr (12, mo v_r v_i v_j)), (v_r 10, .inl (cJ, 90000, .inr (.inl v_cell_v))), (v_r 12, .inl (cI, 90000, .inl v_listAt_v))]) (w1 := []) hP hD [] [0, 1, 2] rfl rfl (by decide) (by decide) hk1 hFc hP1 hD1
  subst e9
  clear hP1 hD1 hK1 hvm hz1 hk1 hFc hKc hDc hPc
  subst ht
  generalize t9.heap = H at hP hS ⊢
  have hP : va_P (dC, dI) classes [(h0, .inr (12, mo v_r v_i v_j)), (v_r 10, .inl (cJ, 90000, .inr (.inl v_cell_v))), (v_r 12, .inl (cI, 90000, .inl v_listAt_v))] H := hP
  have hD : va_D A [(h0, .inr (12, mo v_r v_i v_j)), (v_r 10, .inl (cJ, 90000, .inr (.inl v_cell_v))), (v_r 12, .inl (cI, 90000, .inl v_listAt_v))] := hD
  have h_1 : vp_in (m_Model_what_r v) 90000 := hw1
  refine va_iald hx hb hK hP 2 0 rfl rfl h_1 d_Model_member_12 ?_
  refine lv_iload_n hx hb d_Model_member_13 rfl (lv_at hl 2 rfl) ?_
  refine lv_iadd hx hb d_Model_member_14 ?_
  have h_2 : vp_in ((v_listAt_v (m_Model_what_r v).toNatClampNeg) + k) 90000 := hw2
  refine va_lald hx hb hK hP 1 1 rfl rfl h_2 d_Model_member_15 ?_
  have hP9 := hP.sub (ws' := [(h0, .inr (12, mo v_r v_i v_j)), (v_r 10, .inl (cJ, 90000, .inr (.inl v_cell_v))), (v_r 12, .inl (cI, 90000, .inl v_listAt_v))]) [0, 1, 2] rfl
  have hD9 := hD.sub (ws' := [(h0, .inr (12, mo v_r v_i v_j)), (v_r 10, .inl (cJ, 90000, .inr (.inl v_cell_v))), (v_r 12, .inl (cI, 90000, .inl v_listAt_v))]) [0, 1, 2] (by decide) rfl
  exact W.lret (v := v_cell_v ((v_listAt_v (m_Model_what_r v).toNatClampNeg) + k).toNatClampNeg) hx hb hr (fun t9 ht hW => ⟨⟨v_cell_v ((v_listAt_v (m_Model_what_r v).toNatClampNeg) + k).toNatClampNeg, (), rfl, by unfold m_Model_member_r; rfl, by rw [ht]; exact hP9, va_K.moved hW.alike hK, hD9⟩, hS.F ht⟩) hS.2.2 d_Model_member_16

def m_Model_sizeOf_r (v_wordSize_v : Nat → Int32) (v_weight_v : Nat → Int32) (v : Int64) : Int32 := if ((m_Model_isNumber_r v)) = ((0 : Int32)) then if ((m_Model_isWord_r v)) = ((0 : Int32)) then v_weight_v (m_Model_what_r v).toNatClampNeg else v_wordSize_v (m_Model_what_r v).toNatClampNeg else 1
set_option maxHeartbeats 4000000 in
set_option maxRecDepth 100000 in
theorem c_Model_sizeOf (l : Launch) (dC : Nat → ClassId) (dI : Nat → Nat → Nat) (sz : Nat) (h0 : Nat) (v_r : Nat → Nat) (v_i : Nat → Int32) (v_j : Nat → Int64) (v_wordSize_v : Nat → Int32) (v_weight_v : Nat → Int32) (cI : ClassId) (cJ : ClassId) (cB : ClassId) (v : Int64) (hw1 : m_Model_isNumber_r v = 0 → m_Model_isWord_r v = 0 → vp_in (m_Model_what_r v) 90000) (hw2 : m_Model_isNumber_r v = 0 → ¬ m_Model_isWord_r v = 0 → vp_in (m_Model_what_r v) 120000) : Met l y_Model_sizeOf w_Model_sizeOf ({ frames := 2, cells := 0, slots := 0, locals := 42 }) (va_Pc [.ref h0, .long v] (fun U => U.heap.size = sz ∧ va_P (dC, dI) classes [(h0, .inr (12, mo v_r v_i v_j)), (v_r 4, .inl (cI, 120000, .inl v_wordSize_v)), (v_r 14, .inl (cI, 90000, .inl v_weight_v))] U.heap ∧ va_K (dC, dI) classes [(cI, .int), (cJ, .long), (cB, .byte)] U ∧ va_D (fun _ => True) [(h0, .inr (12, mo v_r v_i v_j)), (v_r 4, .inl (cI, 120000, .inl v_wordSize_v)), (v_r 14, .inl (cI, 90000, .inl v_weight_v))])) (va_Qi (fun (r : Int32) (_ : Unit) => r = m_Model_sizeOf_r v_wordSize_v v_weight_v v) (fun (_ : Unit) t => va_P (dC, dI) classes [(h0, .inr (12, mo v_r v_i v_j)), (v_r 4, .inl (cI, 120000, .inl v_wordSize_v)), (v_r 14, .inl (cI, 90000, .inl v_weight_v))] t.heap ∧ va_K (dC, dI) classes [(cI, .int), (cJ, .long), (cB, .byte)] t ∧ va_D (va_A [(h0, .inr (12, mo v_r v_i v_j)), (v_r 4, .inl (cI, 120000, .inl v_wordSize_v)), (v_r 14, .inl (cI, 90000, .inl v_weight_v))] sz) [(h0, .inr (12, mo v_r v_i v_j)), (v_r 4, .inl (cI, 120000, .inl v_wordSize_v)), (v_r 14, .inl (cI, 90000, .inl v_weight_v))]) (va_A [(h0, .inr (12, mo v_r v_i v_j)), (v_r 4, .inl (cI, 120000, .inl v_wordSize_v)), (v_r 14, .inl (cI, 90000, .inl v_weight_v))] sz)) 0 0 (va_A [(h0, .inr (12, mo v_r v_i v_j)), (v_r 4, .inl (cI, 120000, .inl v_wordSize_v)), (v_r 14, .inl (cI, 90000, .inl v_weight_v))] sz) := by
  refine Met.ofW (cc := b_Model_sizeOf) (maxL := 3) (ret := (some .int)) (by decide) rfl ?_
  intro p e s m args below meth c s₁ B hml hv
  obtain ⟨rfl, hsz, hP, hK, hD0⟩ := hv
  have hx := B.exec
  have hb := B.bytes
  have hr := B.returns
  have hts := atoms_spec (ws := w_Model_sizeOf) B.pre
  have htt : ∀ w ∈ tw_T, w.before _ s = true := fun w h => hts w (List.mem_cons_of_mem _ h)
  have hown : s.vm.findClass R_Model = some m.cls := findClass_of_methodNamed B.named
  have hlocks := B.notSynchronized
  subst hsz
  have hD := hD0.self (sz := s.heap.size)
  generalize hAe : va_A [(h0, .inr (12, mo v_r v_i v_j)), (v_r 4, .inl (cI, 120000, .inl v_wordSize_v)), (v_r 14, .inl (cI, 90000, .inl v_weight_v))] s.heap.size = A at hD ⊢
  have hA : ∀ q : Nat, s.heap.size ≤ q → A q := fun q h => by rw [← hAe]; exact Or.inr h
  have hS : va_S A s.heap s.heap [] := va_S.rf
  have hP : va_P (dC, dI) classes [(h0, .inr (12, mo v_r v_i v_j)), (v_r 4, .inl (cI, 120000, .inl v_wordSize_v)), (v_r 14, .inl (cI, 90000, .inl v_weight_v))] s.heap := hP
  have hl := lv_entry ([.ref h0, .long v]) (n := 3) (Nat.le_of_ble_eq_true rfl)
  rw [lg_entry_eq]
  generalize (lg_sl ([.ref h0, .long v]) ++ List.replicate (3 - (lg_sl ([.ref h0, .long v])).length) Slot.unset).toArray = ls at hl ⊢
  have hl : lv_has ls 3 [(0, .ref h0), (1, .long v)] := hl
  refine lv_lload_n hx hb d_Model_sizeOf_0 rfl (lv_at hl 1 rfl) ?_
  have hPc := hP.sub (ws' := []) [] rfl
  have hDc := hD.sub (ws' := []) [] (by decide) rfl
  have hKc := hK.sub (tys' := []) [] rfl
  have hFc := va_free (wc := []) hD hS hA [] rfl
  refine va_calli (va_runS (As := [.long v]) (rest := []) ⟨hx, hb, hml, hown, hts⟩ (c_Model_isNumber l dC dI s.heap.size v) (va_cwS 1 hts (tw_GS tw_cons cw_Model_isNumber lk_Model_57 st_Model_isNumber ini_Model) rfl rfl rfl (by decide +kernel) ⟨Nat.le_of_ble_eq_true rfl, Nat.le_of_ble_eq_true rfl⟩) ⟨fun a U g mk q => by obtain ⟨q0, q1, qP, qK, qD⟩ := q; exact ⟨q0, q1, qP, va_K.moved (u := U) (U := U.calling g mk a) (Vm.Alike.refl U.vm) qK, qD⟩, fun U hU hW => ⟨rfl, by rw [hU], by rw [hU]; exact hPc, va_K.moved hW.alike hKc, hDc.weaken (fun _ _ _ _ => trivial)⟩⟩ rfl rfl hl.1 rfl (lv_room (Nat.le_of_ble_eq_true rfl)) d_Model_sizeOf_1 ⟨Nat.le_of_ble_eq_true rfl, Nat.le_of_ble_eq_true rfl⟩) hS (fun q _ h => hFc q h) hFc (fun r9 u9 t9 H1 locs ht hvm e9 hB hz1 hk1 hS => ?_)
  obtain ⟨hP1, hK1, hD1⟩ := hB
  rw [ht] at hP1
  obtain ⟨hP, hD⟩ := va_join (wr := [(h0, .inr (12, mo v_r v_i v_j)), (v_r 4, .inl (cI, 120000, .inl v_wordSize_v)), (v_r 14, .inl (cI, 90000, .inl v_weight_v))]) (w1 := []) hP hD [] [0, 1, 2] rfl rfl (by decide) (by decide) hk1 hFc hP1 hD1
  subst e9
  clear hP1 hD1 hK1 hvm hz1 hk1 hFc hKc hDc hPc
  subst ht
  generalize t9.heap = H at hP hS ⊢
  have hP : va_P (dC, dI) classes [(h0, .inr (12, mo v_r v_i v_j)), (v_r 4, .inl (cI, 120000, .inl v_wordSize_v)), (v_r 14, .inl (cI, 90000, .inl v_weight_v))] H := hP
  have hD : va_D A [(h0, .inr (12, mo v_r v_i v_j)), (v_r 4, .inl (cI, 120000, .inl v_wordSize_v)), (v_r 14, .inl (cI, 90000, .inl v_weight_v))] := hD
  refine lv_if_eq (tgt := 11) hx hb d_Model_sizeOf_4 (by decide) (fun c_1 => ?_) (fun c_1 => ?_)
  · refine lv_lload_n hx hb d_Model_sizeOf_11 rfl (lv_at hl 1 rfl) ?_
    have hPc := hP.sub (ws' := []) [] rfl
    have hDc := hD.sub (ws' := []) [] (by decide) rfl
    have hKc := hK.sub (tys' := []) [] rfl
    have hFc := va_free (wc := []) hD hS hA [] rfl
    refine va_calli (va_runS (As := [.long v]) (rest := []) ⟨hx, hb, hml, hown, hts⟩ (c_Model_isWord l dC dI H.size v) (va_cwS 1 hts (tw_GS tw_cons cw_Model_isWord lk_Model_61 st_Model_isWord ini_Model) rfl rfl rfl (by decide +kernel) ⟨Nat.le_of_ble_eq_true rfl, Nat.le_of_ble_eq_true rfl⟩) ⟨fun a U g mk q => by obtain ⟨q0, q1, qP, qK, qD⟩ := q; exact ⟨q0, q1, qP, va_K.moved (u := U) (U := U.calling g mk a) (Vm.Alike.refl U.vm) qK, qD⟩, fun U hU hW => ⟨rfl, by rw [hU], by rw [hU]; exact hPc, va_K.moved hW.alike hKc, hDc.weaken (fun _ _ _ _ => trivial)⟩⟩ rfl rfl hl.1 rfl (lv_room (Nat.le_of_ble_eq_true rfl)) d_Model_sizeOf_12 ⟨Nat.le_of_ble_eq_true rfl, Nat.le_of_ble_eq_true rfl⟩) hS (fun q _ h => hFc q h) hFc (fun r9 u9 t9 H1 locs ht hvm e9 hB hz1 hk1 hS => ?_)
    obtain ⟨hP1, hK1, hD1⟩ := hB
    rw [ht] at hP1
    obtain ⟨hP, hD⟩ := va_join (wr := [(h0, .inr (12, mo v_r v_i v_j)), (v_r 4, .inl (cI, 120000, .inl v_wordSize_v)), (v_r 14, .inl (cI, 90000, .inl v_weight_v))]) (w1 := []) hP hD [] [0, 1, 2] rfl rfl (by decide) (by decide) hk1 hFc hP1 hD1
    subst e9
    clear hP1 hD1 hK1 hvm hz1 hk1 hFc hKc hDc hPc
    subst ht
    generalize t9.heap = H at hP hS ⊢
    have hP : va_P (dC, dI) classes [(h0, .inr (12, mo v_r v_i v_j)), (v_r 4, .inl (cI, 120000, .inl v_wordSize_v)), (v_r 14, .inl (cI, 90000, .inl v_weight_v))] H := hP
    have hD : va_D A [(h0, .inr (12, mo v_r v_i v_j)), (v_r 4, .inl (cI, 120000, .inl v_wordSize_v)), (v_r 14, .inl (cI, 90000, .inl v_weight_v))] := hD
    refine lv_if_eq (tgt := 30) hx hb d_Model_sizeOf_15 (by decide) (fun c_2 => ?_) (fun c_2 => ?_)
    · refine lv_aload_n hx hb d_Model_sizeOf_30 rfl (lv_at hl 0 rfl) ?_
      refine va_get (D := (dC, dI)) (ci := 12) (v := .ref (v_r 14)) (C := R_Model) (T := F_Model) (N := 127) hx hb htt iw_Model hown hK hP 0 rfl rfl 14 (by decide) (htt _ lk_Model_50) (fun _ h9 => h9) rfl d_Model_sizeOf_31 ?_
      refine lv_lload_n hx hb d_Model_sizeOf_34 rfl (lv_at hl 1 rfl) ?_
      have hPc := hP.sub (ws' := []) [] rfl
      have hDc := hD.sub (ws' := []) [] (by decide) rfl
      have hKc := hK.sub (tys' := []) [] rfl
      have hFc := va_free (wc := []) hD hS hA [] rfl
      refine va_calli (va_runS (As := [.long v]) (rest := [.ref (v_r 14)]) ⟨hx, hb, hml, hown, hts⟩ (c_Model_what l dC dI H.size v) (va_cwS 1 hts (tw_GS tw_cons cw_Model_what lk_Model_64 st_Model_what ini_Model) rfl rfl rfl (by decide +kernel) ⟨Nat.le_of_ble_eq_true rfl, Nat.le_of_ble_eq_true rfl⟩) ⟨fun a U g mk q => by obtain ⟨q0, q1, qP, qK, qD⟩ := q; exact ⟨q0, q1, qP, va_K.moved (u := U) (U := U.calling g mk a) (Vm.Alike.refl U.vm) qK, qD⟩, fun U hU hW => ⟨rfl, by rw [hU], by rw [hU]; exact hPc, va_K.moved hW.alike hKc, hDc.weaken (fun _ _ _ _ => trivial)⟩⟩ rfl rfl hl.1 rfl (lv_room (Nat.le_of_ble_eq_true rfl)) d_Model_sizeOf_35 ⟨Nat.le_of_ble_eq_true rfl, Nat.le_of_ble_eq_true rfl⟩) hS (fun q _ h => hFc q h) hFc (fun r9 u9 t9 H1 locs ht hvm e9 hB hz1 hk1 hS => ?_)
      obtain ⟨hP1, hK1, hD1⟩ := hB
      rw [ht] at hP1
      obtain ⟨hP, hD⟩ := va_join (wr := [(h0, .inr (12, mo v_r v_i v_j)), (v_r 4, .inl (cI, 120000, .inl v_wordSize_v)), (v_r 14, .inl (cI, 90000, .inl v_weight_v))]) (w1 := []) hP hD [] [0, 1, 2] rfl rfl (by decide) (by decide) hk1 hFc hP1 hD1
      subst e9
      clear hP1 hD1 hK1 hvm hz1 hk1 hFc hKc hDc hPc
      subst ht
      generalize t9.heap = H at hP hS ⊢
      have hP : va_P (dC, dI) classes [(h0, .inr (12, mo v_r v_i v_j)), (v_r 4, .inl (cI, 120000, .inl v_wordSize_v)), (v_r 14, .inl (cI, 90000, .inl v_weight_v))] H := hP
      have hD : va_D A [(h0, .inr (12, mo v_r v_i v_j)), (v_r 4, .inl (cI, 120000, .inl v_wordSize_v)), (v_r 14, .inl (cI, 90000, .inl v_weight_v))] := hD
      have h_3 : vp_in (m_Model_what_r v) 90000 := hw1 c_1 c_2
      refine va_iald hx hb hK hP 2 0 rfl rfl h_3 d_Model_sizeOf_38 ?_
      have hP9 := hP.sub (ws' := [(h0, .inr (12, mo v_r v_i v_j)), (v_r 4, .inl (cI, 120000, .inl v_wordSize_v)), (v_r 14, .inl (cI, 90000, .inl v_weight_v))]) [0, 1, 2] rfl
      have hD9 := hD.sub (ws' := [(h0, .inr (12, mo v_r v_i v_j)), (v_r 4, .inl (cI, 120000, .inl v_wordSize_v)), (v_r 14, .inl (cI, 90000, .inl v_weight_v))]) [0, 1, 2] (by decide) rfl
      exact W.iret (v := v_weight_v (m_Model_what_r v).toNatClampNeg) hx hb hr (fun t9 ht hW => ⟨⟨v_weight_v (m_Model_what_r v).toNatClampNeg, (), rfl, by unfold m_Model_sizeOf_r; simp only [if_pos c_1, if_pos c_2], by rw [ht]; exact hP9, va_K.moved hW.alike hK, hD9⟩, hS.F ht⟩) hS.2.2 d_Model_sizeOf_39
    · refine lv_aload_n hx hb d_Model_sizeOf_18 rfl (lv_at hl 0 rfl) ?_
      refine va_get (D := (dC, dI)) (ci := 12) (v := .ref (v_r 4)) (C := R_Model) (T := F_Model) (N := 127) hx hb htt iw_Model hown hK hP 0 rfl rfl 4 (by decide) (htt _ lk_Model_22) (fun _ h9 => h9) rfl d_Model_sizeOf_19 ?_
      refine lv_lload_n hx hb d_Model_sizeOf_22 rfl (lv_at hl 1 rfl) ?_
      have hPc := hP.sub (ws' := []) [] rfl
      have hDc := hD.sub (ws' := []) [] (by decide) rfl
      have hKc := hK.sub (tys' := []) [] rfl
      have hFc := va_free (wc := []) hD hS hA [] rfl
      refine va_calli (va_runS (As := [.long v]) (rest := [.ref (v_r 4)]) ⟨hx, hb, hml, hown, hts⟩ (c_Model_what l dC dI H.size v) (va_cwS 1 hts (tw_GS tw_cons cw_Model_what lk_Model_64 st_Model_what ini_Model) rfl rfl rfl (by decide +kernel) ⟨Nat.le_of_ble_eq_true rfl, Nat.le_of_ble_eq_true rfl⟩) ⟨fun a U g mk q => by obtain ⟨q0, q1, qP, qK, qD⟩ := q; exact ⟨q0, q1, qP, va_K.moved (u := U) (U := U.calling g mk a) (Vm.Alike.refl U.vm) qK, qD⟩, fun U hU hW => ⟨rfl, by rw [hU], by rw [hU]; exact hPc, va_K.moved hW.alike hKc, hDc.weaken (fun _ _ _ _ => trivial)⟩⟩ rfl rfl hl.1 rfl (lv_room (Nat.le_of_ble_eq_true rfl)) d_Model_sizeOf_23 ⟨Nat.le_of_ble_eq_true rfl, Nat.le_of_ble_eq_true rfl⟩) hS (fun q _ h => hFc q h) hFc (fun r9 u9 t9 H1 locs ht hvm e9 hB hz1 hk1 hS => ?_)
      obtain ⟨hP1, hK1, hD1⟩ := hB
      rw [ht] at hP1
      obtain ⟨hP, hD⟩ := va_join (wr := [(h0, .inr (12, mo v_r v_i v_j)), (v_r 4, .inl (cI, 120000, .inl v_wordSize_v)), (v_r 14, .inl (cI, 90000, .inl v_weight_v))]) (w1 := []) hP hD [] [0, 1, 2] rfl rfl (by decide) (by decide) hk1 hFc hP1 hD1
      subst e9
      clear hP1 hD1 hK1 hvm hz1 hk1 hFc hKc hDc hPc
      subst ht
      generalize t9.heap = H at hP hS ⊢
      have hP : va_P (dC, dI) classes [(h0, .inr (12, mo v_r v_i v_j)), (v_r 4, .inl (cI, 120000, .inl v_wordSize_v)), (v_r 14, .inl (cI, 90000, .inl v_weight_v))] H := hP
      have hD : va_D A [(h0, .inr (12, mo v_r v_i v_j)), (v_r 4, .inl (cI, 120000, .inl v_wordSize_v)), (v_r 14, .inl (cI, 90000, .inl v_weight_v))] := hD
      have h_4 : vp_in (m_Model_what_r v) 120000 := hw2 c_1 c_2
      refine va_iald hx hb hK hP 1 0 rfl rfl h_4 d_Model_sizeOf_26 ?_
      refine lv_goto (tgt := 39) hx hb d_Model_sizeOf_27 (by decide) ?_
      have hP9 := hP.sub (ws' := [(h0, .inr (12, mo v_r v_i v_j)), (v_r 4, .inl (cI, 120000, .inl v_wordSize_v)), (v_r 14, .inl (cI, 90000, .inl v_weight_v))]) [0, 1, 2] rfl
      have hD9 := hD.sub (ws' := [(h0, .inr (12, mo v_r v_i v_j)), (v_r 4, .inl (cI, 120000, .inl v_wordSize_v)), (v_r 14, .inl (cI, 90000, .inl v_weight_v))]) [0, 1, 2] (by decide) rfl
      exact W.iret (v := v_wordSize_v (m_Model_what_r v).toNatClampNeg) hx hb hr (fun t9 ht hW => ⟨⟨v_wordSize_v (m_Model_what_r v).toNatClampNeg, (), rfl, by unfold m_Model_sizeOf_r; simp only [if_pos c_1, if_neg c_2], by rw [ht]; exact hP9, va_K.moved hW.alike hK, hD9⟩, hS.F ht⟩) hS.2.2 d_Model_sizeOf_39
  · refine lv_iconst (v := 1) hx hb d_Model_sizeOf_7 (by decide) ?_
    refine lv_goto (tgt := 39) hx hb d_Model_sizeOf_8 (by decide) ?_
    have hP9 := hP.sub (ws' := [(h0, .inr (12, mo v_r v_i v_j)), (v_r 4, .inl (cI, 120000, .inl v_wordSize_v)), (v_r 14, .inl (cI, 90000, .inl v_weight_v))]) [0, 1, 2] rfl
    have hD9 := hD.sub (ws' := [(h0, .inr (12, mo v_r v_i v_j)), (v_r 4, .inl (cI, 120000, .inl v_wordSize_v)), (v_r 14, .inl (cI, 90000, .inl v_weight_v))]) [0, 1, 2] (by decide) rfl
    exact W.iret (v := 1) hx hb hr (fun t9 ht hW => ⟨⟨1, (), rfl, by unfold m_Model_sizeOf_r; simp only [if_neg c_1], by rw [ht]; exact hP9, va_K.moved hW.alike hK, hD9⟩, hS.F ht⟩) hS.2.2 d_Model_sizeOf_39

def m_Model_say_w0_i (v_i : Nat → Int32) : Nat → Int32 := upd v_i 25 ((v_i 25) + 1)
def m_Model_say_w1 (v_i : Nat → Int32) (v_shown_v : Nat → Int32) (a : Int32) : Nat → Int32 := upd v_shown_v (v_i 25).toNatClampNeg (vp_nar .byte a.toInt8.toInt32)
set_option maxHeartbeats 4000000 in
set_option maxRecDepth 100000 in
theorem c_Model_say (l : Launch) (dC : Nat → ClassId) (dI : Nat → Nat → Nat) (sz : Nat) (h0 : Nat) (v_r : Nat → Nat) (v_i : Nat → Int32) (v_j : Nat → Int64) (v_shown_v : Nat → Int32) (cI : ClassId) (cJ : ClassId) (cB : ClassId) (a : Int32) (hs1 : vp_in (v_i 25) 40000) : Met l y_Model_say w_Model_say ({ frames := 0, cells := 0, slots := 0, locals := 0 }) (va_Pc [.ref h0, .int a] (fun U => U.heap.size = sz ∧ va_P (dC, dI) classes [(h0, .inr (12, mo v_r v_i v_j)), (v_r 24, .inl (cB, 40000, .inl v_shown_v))] U.heap ∧ va_K (dC, dI) classes [(cI, .int), (cJ, .long), (cB, .byte)] U ∧ va_D (fun _ => True) [(h0, .inr (12, mo v_r v_i v_j)), (v_r 24, .inl (cB, 40000, .inl v_shown_v))])) (va_Qv (fun (_ : Unit) => True) (fun (_ : Unit) t => va_P (dC, dI) classes [(h0, .inr (12, mo v_r (m_Model_say_w0_i v_i) v_j)), (v_r 24, .inl (cB, 40000, .inl (m_Model_say_w1 v_i v_shown_v a)))] t.heap ∧ va_K (dC, dI) classes [(cI, .int), (cJ, .long), (cB, .byte)] t ∧ va_D (va_A [(h0, .inr (12, mo v_r v_i v_j)), (v_r 24, .inl (cB, 40000, .inl v_shown_v))] sz) [(h0, .inr (12, mo v_r (m_Model_say_w0_i v_i) v_j)), (v_r 24, .inl (cB, 40000, .inl (m_Model_say_w1 v_i v_shown_v a)))]) (va_A [(h0, .inr (12, mo v_r v_i v_j)), (v_r 24, .inl (cB, 40000, .inl v_shown_v))] sz)) 0 0 (va_A [(h0, .inr (12, mo v_r v_i v_j)), (v_r 24, .inl (cB, 40000, .inl v_shown_v))] sz) := by
  refine Met.ofW (cc := b_Model_say) (maxL := 2) (ret := none) (by decide) rfl ?_
  intro p e s m args below meth c s₁ B hml hv
  obtain ⟨rfl, hsz, hP, hK, hD0⟩ := hv
  have hx := B.exec
  have hb := B.bytes
  have hr := B.returns
  have hts := atoms_spec (ws := w_Model_say) B.pre
  have htt : ∀ w ∈ tw_T, w.before _ s = true := fun w h => hts w (List.mem_cons_of_mem _ h)
  have hown : s.vm.findClass R_Model = some m.cls := findClass_of_methodNamed B.named
  have hlocks := B.notSynchronized
  subst hsz
  have hD := hD0.self (sz := s.heap.size)
  generalize hAe : va_A [(h0, .inr (12, mo v_r v_i v_j)), (v_r 24, .inl (cB, 40000, .inl v_shown_v))] s.heap.size = A at hD ⊢
  have hA : ∀ q : Nat, s.heap.size ≤ q → A q := fun q h => by rw [← hAe]; exact Or.inr h
  have hS : va_S A s.heap s.heap [] := va_S.rf
  have hP : va_P (dC, dI) classes [(h0, .inr (12, mo v_r v_i v_j)), (v_r 24, .inl (cB, 40000, .inl v_shown_v))] s.heap := hP
  have hl := lv_entry ([.ref h0, .int a]) (n := 2) (Nat.le_of_ble_eq_true rfl)
  rw [lg_entry_eq]
  generalize (lg_sl ([.ref h0, .int a]) ++ List.replicate (2 - (lg_sl ([.ref h0, .int a])).length) Slot.unset).toArray = ls at hl ⊢
  have hl : lv_has ls 2 [(0, .ref h0), (1, .int a)] := hl
  refine lv_aload_n hx hb d_Model_say_0 rfl (lv_at hl 0 rfl) ?_
  refine va_get (D := (dC, dI)) (ci := 12) (v := .ref (v_r 24)) (C := R_Model) (T := F_Model) (N := 127) hx hb htt iw_Model hown hK hP 0 rfl rfl 24 (by decide) (htt _ lk_Model_105) (fun _ h9 => h9) rfl d_Model_say_1 ?_
  refine lv_aload_n hx hb d_Model_say_4 rfl (lv_at hl 0 rfl) ?_
  refine va_get (D := (dC, dI)) (ci := 12) (v := .int (v_i 25)) (C := R_Model) (T := F_Model) (N := 127) hx hb htt iw_Model hown hK hP 0 rfl rfl 25 (by decide) (htt _ lk_Model_108) (fun _ h9 => h9) rfl d_Model_say_5 ?_
  refine lv_iload_n hx hb d_Model_say_8 rfl (lv_at hl 1 rfl) ?_
  refine lv_i2b hx hb d_Model_say_9 rfl ?_
  have h_1 : vp_in (v_i 25) 40000 := hs1
  refine va_bast hx hb hK hP hD hS 1 2 rfl rfl h_1 d_Model_say_10 (fun H locs hP hD hS => ?_)
  have hP : va_P (dC, dI) classes [(h0, .inr (12, mo v_r v_i v_j)), (v_r 24, .inl (cB, 40000, .inl (upd v_shown_v (v_i 25).toNatClampNeg (vp_nar .byte a.toInt8.toInt32))))] H := hP
  have hD : va_D A [(h0, .inr (12, mo v_r v_i v_j)), (v_r 24, .inl (cB, 40000, .inl (upd v_shown_v (v_i 25).toNatClampNeg (vp_nar .byte a.toInt8.toInt32))))] := hD
  refine lv_aload_n hx hb d_Model_say_11 rfl (lv_at hl 0 rfl) ?_
  refine lv_dup hx hb d_Model_say_12 rfl ?_
  refine va_get (D := (dC, dI)) (ci := 12) (v := .int (v_i 25)) (C := R_Model) (T := F_Model) (N := 127) hx hb htt iw_Model hown hK hP 0 rfl rfl 25 (by decide) (htt _ lk_Model_108) (fun _ h9 => h9) rfl d_Model_say_13 ?_
  refine lv_iconst (v := 1) hx hb d_Model_say_16 (by decide) ?_
  refine lv_iadd hx hb d_Model_say_17 ?_
  refine lv_topi (fun x_2 ex_2 => ?_)
  refine va_put (D := (dC, dI)) (ci := 12) (v := .int x_2) (ty := .int) (C := R_Model) (T := F_Model) (N := 127) hx hb htt iw_Model t_Model t_Model_ok n_Model hown hK hP hD hS 0 rfl rfl 25 (by decide) (htt _ lk_Model_108) (fun _ h9 => h9) rfl (by decide +kernel) rfl rfl (Nat.le_of_ble_eq_true rfl) d_Model_say_18 (fun H locs hP hD hS => ?_)
  have hP : va_P (dC, dI) classes [(h0, .inr (12, mo v_r (upd v_i 25 x_2) v_j)), (v_r 24, .inl (cB, 40000, .inl (upd v_shown_v (v_i 25).toNatClampNeg (vp_nar .byte a.toInt8.toInt32))))] H := hP
  have hD : va_D A [(h0, .inr (12, mo v_r (upd v_i 25 x_2) v_j)), (v_r 24, .inl (cB, 40000, .inl (upd v_shown_v (v_i 25).toNatClampNeg (vp_nar .byte a.toInt8.toInt32))))] := hD
  subst ex_2
  have hP9 := hP.sub (ws' := [(h0, .inr (12, mo v_r (upd v_i 25 ((v_i 25) + 1)) v_j)), (v_r 24, .inl (cB, 40000, .inl (upd v_shown_v (v_i 25).toNatClampNeg (vp_nar .byte a.toInt8.toInt32))))]) [0, 1] rfl
  have hD9 := hD.sub (ws' := [(h0, .inr (12, mo v_r (upd v_i 25 ((v_i 25) + 1)) v_j)), (v_r 24, .inl (cB, 40000, .inl (upd v_shown_v (v_i 25).toNatClampNeg (vp_nar .byte a.toInt8.toInt32))))]) [0, 1] (by decide) rfl
  have eW : [(h0, .inr (12, mo v_r (upd v_i 25 ((v_i 25) + 1)) v_j)), (v_r 24, .inl (cB, 40000, .inl (upd v_shown_v (v_i 25).toNatClampNeg (vp_nar .byte a.toInt8.toInt32))))] = ([(h0, .inr (12, mo v_r (m_Model_say_w0_i v_i) v_j)), (v_r 24, .inl (cB, 40000, .inl (m_Model_say_w1 v_i v_shown_v a)))] : va_W) := by unfold m_Model_say_w0_i m_Model_say_w1; rfl
  rw [eW] at hP9 hD9
  exact W.vret hx hb hr (fun t9 ht hW => ⟨⟨(), rfl, trivial, by rw [ht]; exact hP9, va_K.moved hW.alike hK, hD9⟩, hS.F ht⟩) hS.2.2 d_Model_say_21

def m_Model_newWord_r (v_i : Nat → Int32) : Int32 := ((v_i 19) + 1) - 1
def m_Model_newWord_w0_i (v_i : Nat → Int32) : Nat → Int32 := upd v_i 19 ((v_i 19) + 1)
def m_Model_newWord_w1 (v_i : Nat → Int32) (v_wordAt_v : Nat → Int32) (a : Int32) : Nat → Int32 := upd v_wordAt_v (v_i 19).toNatClampNeg a
def m_Model_newWord_w2 (v_i : Nat → Int32) (v_wordSize_v : Nat → Int32) (n : Int32) : Nat → Int32 := upd v_wordSize_v (v_i 19).toNatClampNeg n
def m_Model_newWord_w3 (v_i : Nat → Int32) (v_meaning_v : Nat → Int32) : Nat → Int32 := upd v_meaning_v (v_i 19).toNatClampNeg 0
def m_Model_newWord_w4 (v_i : Nat → Int32) (v_quote_v : Nat → Int64) : Nat → Int64 := vp_updL v_quote_v (v_i 19).toNatClampNeg 3
set_option maxHeartbeats 4000000 in
set_option maxRecDepth 100000 in
theorem c_Model_newWord (l : Launch) (dC : Nat → ClassId) (dI : Nat → Nat → Nat) (sz : Nat) (h0 : Nat) (v_r : Nat → Nat) (v_i : Nat → Int32) (v_j : Nat → Int64) (v_wordAt_v : Nat → Int32) (v_wordSize_v : Nat → Int32) (v_meaning_v : Nat → Int32) (v_quote_v : Nat → Int64) (cI : ClassId) (cJ : ClassId) (cB : ClassId) (a : Int32) (n : Int32) (hn1 : vp_in (v_i 19) 120000) : Met l y_Model_newWord w_Model_newWord ({ frames := 0, cells := 0, slots := 0, locals := 0 }) (va_Pc [.ref h0, .int a, .int n] (fun U => U.heap.size = sz ∧ va_P (dC, dI) classes [(h0, .inr (12, mo v_r v_i v_j)), (v_r 3, .inl (cI, 120000, .inl v_wordAt_v)), (v_r 4, .inl (cI, 120000, .inl v_wordSize_v)), (v_r 7, .inl (cI, 120000, .inl v_meaning_v)), (v_r 9, .inl (cJ, 120000, .inr (.inl v_quote_v)))] U.heap ∧ va_K (dC, dI) classes [(cI, .int), (cJ, .long), (cB, .byte)] U ∧ va_D (fun _ => True) [(h0, .inr (12, mo v_r v_i v_j)), (v_r 3, .inl (cI, 120000, .inl v_wordAt_v)), (v_r 4, .inl (cI, 120000, .inl v_wordSize_v)), (v_r 7, .inl (cI, 120000, .inl v_meaning_v)), (v_r 9, .inl (cJ, 120000, .inr (.inl v_quote_v)))])) (va_Qi (fun (r : Int32) (_ : Unit) => r = m_Model_newWord_r v_i) (fun (_ : Unit) t => va_P (dC, dI) classes [(h0, .inr (12, mo v_r (m_Model_newWord_w0_i v_i) v_j)), (v_r 3, .inl (cI, 120000, .inl (m_Model_newWord_w1 v_i v_wordAt_v a))), (v_r 4, .inl (cI, 120000, .inl (m_Model_newWord_w2 v_i v_wordSize_v n))), (v_r 7, .inl (cI, 120000, .inl (m_Model_newWord_w3 v_i v_meaning_v))), (v_r 9, .inl (cJ, 120000, .inr (.inl (m_Model_newWord_w4 v_i v_quote_v))))] t.heap ∧ va_K (dC, dI) classes [(cI, .int), (cJ, .long), (cB, .byte)] t ∧ va_D (va_A [(h0, .inr (12, mo v_r v_i v_j)), (v_r 3, .inl (cI, 120000, .inl v_wordAt_v)), (v_r 4, .inl (cI, 120000, .inl v_wordSize_v)), (v_r 7, .inl (cI, 120000, .inl v_meaning_v)), (v_r 9, .inl (cJ, 120000, .inr (.inl v_quote_v)))] sz) [(h0, .inr (12, mo v_r (m_Model_newWord_w0_i v_i) v_j)), (v_r 3, .inl (cI, 120000, .inl (m_Model_newWord_w1 v_i v_wordAt_v a))), (v_r 4, .inl (cI, 120000, .inl (m_Model_newWord_w2 v_i v_wordSize_v n))), (v_r 7, .inl (cI, 120000, .inl (m_Model_newWord_w3 v_i v_meaning_v))), (v_r 9, .inl (cJ, 120000, .inr (.inl (m_Model_newWord_w4 v_i v_quote_v))))]) (va_A [(h0, .inr (12, mo v_r v_i v_j)), (v_r 3, .inl (cI, 120000, .inl v_wordAt_v)), (v_r 4, .inl (cI, 120000, .inl v_wordSize_v)), (v_r 7, .inl (cI, 120000, .inl v_meaning_v)), (v_r 9, .inl (cJ, 120000, .inr (.inl v_quote_v)))] sz)) 0 0 (va_A [(h0, .inr (12, mo v_r v_i v_j)), (v_r 3, .inl (cI, 120000, .inl v_wordAt_v)), (v_r 4, .inl (cI, 120000, .inl v_wordSize_v)), (v_r 7, .inl (cI, 120000, .inl v_meaning_v)), (v_r 9, .inl (cJ, 120000, .inr (.inl v_quote_v)))] sz) := by
  refine Met.ofW (cc := b_Model_newWord) (maxL := 3) (ret := (some .int)) (by decide) rfl ?_
  intro p e s m args below meth c s₁ B hml hv
  obtain ⟨rfl, hsz, hP, hK, hD0⟩ := hv
  have hx := B.exec
  have hb := B.bytes
  have hr := B.returns
  have hts := atoms_spec (ws := w_Model_newWord) B.pre
  have htt : ∀ w ∈ tw_T, w.before _ s = true := fun w h => hts w (List.mem_cons_of_mem _ h)
  have hown : s.vm.findClass R_Model = some m.cls := findClass_of_methodNamed B.named
  have hlocks := B.notSynchronized
  subst hsz
  have hD := hD0.self (sz := s.heap.size)
  generalize hAe : va_A [(h0, .inr (12, mo v_r v_i v_j)), (v_r 3, .inl (cI, 120000, .inl v_wordAt_v)), (v_r 4, .inl (cI, 120000, .inl v_wordSize_v)), (v_r 7, .inl (cI, 120000, .inl v_meaning_v)), (v_r 9, .inl (cJ, 120000, .inr (.inl v_quote_v)))] s.heap.size = A at hD ⊢
  have hA : ∀ q : Nat, s.heap.size ≤ q → A q := fun q h => by rw [← hAe]; exact Or.inr h
  have hS : va_S A s.heap s.heap [] := va_S.rf
  have hP : va_P (dC, dI) classes [(h0, .inr (12, mo v_r v_i v_j)), (v_r 3, .inl (cI, 120000, .inl v_wordAt_v)), (v_r 4, .inl (cI, 120000, .inl v_wordSize_v)), (v_r 7, .inl (cI, 120000, .inl v_meaning_v)), (v_r 9, .inl (cJ, 120000, .inr (.inl v_quote_v)))] s.heap := hP
  have hl := lv_entry ([.ref h0, .int a, .int n]) (n := 3) (Nat.le_of_ble_eq_true rfl)
  rw [lg_entry_eq]
  generalize (lg_sl ([.ref h0, .int a, .int n]) ++ List.replicate (3 - (lg_sl ([.ref h0, .int a, .int n])).length) Slot.unset).toArray = ls at hl ⊢
  have hl : lv_has ls 3 [(0, .ref h0), (1, .int a), (2, .int n)] := hl
  refine lv_aload_n hx hb d_Model_newWord_0 rfl (lv_at hl 0 rfl) ?_
  refine va_get (D := (dC, dI)) (ci := 12) (v := .ref (v_r 3)) (C := R_Model) (T := F_Model) (N := 127) hx hb htt iw_Model hown hK hP 0 rfl rfl 3 (by decide) (htt _ lk_Model_15) (fun _ h9 => h9) rfl d_Model_newWord_1 ?_
  refine lv_aload_n hx hb d_Model_newWord_4 rfl (lv_at hl 0 rfl) ?_
  refine va_get (D := (dC, dI)) (ci := 12) (v := .int (v_i 19)) (C := R_Model) (T := F_Model) (N := 127) hx hb htt iw_Model hown hK hP 0 rfl rfl 19 (by decide) (htt _ lk_Model_19) (fun _ h9 => h9) rfl d_Model_newWord_5 ?_
  refine lv_iload_n hx hb d_Model_newWord_8 rfl (lv_at hl 1 rfl) ?_
  have h_1 : vp_in (v_i 19) 120000 := hn1
  refine va_iast hx hb hK hP hD hS 1 0 rfl rfl h_1 d_Model_newWord_9 (fun H locs hP hD hS => ?_)
  have hP : va_P (dC, dI) classes [(h0, .inr (12, mo v_r v_i v_j)), (v_r 3, .inl (cI, 120000, .inl (upd v_wordAt_v (v_i 19).toNatClampNeg a))), (v_r 4, .inl (cI, 120000, .inl v_wordSize_v)), (v_r 7, .inl (cI, 120000, .inl v_meaning_v)), (v_r 9, .inl (cJ, 120000, .inr (.inl v_quote_v)))] H := hP
  have hD : va_D A [(h0, .inr (12, mo v_r v_i v_j)), (v_r 3, .inl (cI, 120000, .inl (upd v_wordAt_v (v_i 19).toNatClampNeg a))), (v_r 4, .inl (cI, 120000, .inl v_wordSize_v)), (v_r 7, .inl (cI, 120000, .inl v_meaning_v)), (v_r 9, .inl (cJ, 120000, .inr (.inl v_quote_v)))] := hD
  refine lv_aload_n hx hb d_Model_newWord_10 rfl (lv_at hl 0 rfl) ?_
  refine va_get (D := (dC, dI)) (ci := 12) (v := .ref (v_r 4)) (C := R_Model) (T := F_Model) (N := 127) hx hb htt iw_Model hown hK hP 0 rfl rfl 4 (by decide) (htt _ lk_Model_22) (fun _ h9 => h9) rfl d_Model_newWord_11 ?_
  refine lv_aload_n hx hb d_Model_newWord_14 rfl (lv_at hl 0 rfl) ?_
  refine va_get (D := (dC, dI)) (ci := 12) (v := .int (v_i 19)) (C := R_Model) (T := F_Model) (N := 127) hx hb htt iw_Model hown hK hP 0 rfl rfl 19 (by decide) (htt _ lk_Model_19) (fun _ h9 => h9) rfl d_Model_newWord_15 ?_
  refine lv_iload_n hx hb d_Model_newWord_18 rfl (lv_at hl 2 rfl) ?_
  have h_2 : vp_in (v_i 19) 120000 := hn1
  refine va_iast hx hb hK hP hD hS 2 0 rfl rfl h_2 d_Model_newWord_19 (fun H locs hP hD hS => ?_)
  have hP : va_P (dC, dI) classes [(h0, .inr (12, mo v_r v_i v_j)), (v_r 3, .inl (cI, 120000, .inl (upd v_wordAt_v (v_i 19).toNatClampNeg a))), (v_r 4, .inl (cI, 120000, .inl (upd v_wordSize_v (v_i 19).toNatClampNeg n))), (v_r 7, .inl (cI, 120000, .inl v_meaning_v)), (v_r 9, .inl (cJ, 120000, .inr (.inl v_quote_v)))] H := hP
  have hD : va_D A [(h0, .inr (12, mo v_r v_i v_j)), (v_r 3, .inl (cI, 120000, .inl (upd v_wordAt_v (v_i 19).toNatClampNeg a))), (v_r 4, .inl (cI, 120000, .inl (upd v_wordSize_v (v_i 19).toNatClampNeg n))), (v_r 7, .inl (cI, 120000, .inl v_meaning_v)), (v_r 9, .inl (cJ, 120000, .inr (.inl v_quote_v)))] := hD
  refine lv_aload_n hx hb d_Model_newWord_20 rfl (lv_at hl 0 rfl) ?_
  refine va_get (D := (dC, dI)) (ci := 12) (v := .ref (v_r 7)) (C := R_Model) (T := F_Model) (N := 127) hx hb htt iw_Model hown hK hP 0 rfl rfl 7 (by decide) (htt _ lk_Model_25) (fun _ h9 => h9) rfl d_Model_newWord_21 ?_
  refine lv_aload_n hx hb d_Model_newWord_24 rfl (lv_at hl 0 rfl) ?_
  refine va_get (D := (dC, dI)) (ci := 12) (v := .int (v_i 19)) (C := R_Model) (T := F_Model) (N := 127) hx hb htt iw_Model hown hK hP 0 rfl rfl 19 (by decide) (htt _ lk_Model_19) (fun _ h9 => h9) rfl d_Model_newWord_25 ?_
  refine lv_iconst (v := 0) hx hb d_Model_newWord_28 (by decide) ?_
  have h_3 : vp_in (v_i 19) 120000 := hn1
  refine va_iast hx hb hK hP hD hS 3 0 rfl rfl h_3 d_Model_newWord_29 (fun H locs hP hD hS => ?_)
  have hP : va_P (dC, dI) classes [(h0, .inr (12, mo v_r v_i v_j)), (v_r 3, .inl (cI, 120000, .inl (upd v_wordAt_v (v_i 19).toNatClampNeg a))), (v_r 4, .inl (cI, 120000, .inl (upd v_wordSize_v (v_i 19).toNatClampNeg n))), (v_r 7, .inl (cI, 120000, .inl (upd v_meaning_v (v_i 19).toNatClampNeg 0))), (v_r 9, .inl (cJ, 120000, .inr (.inl v_quote_v)))] H := hP
  have hD : va_D A [(h0, .inr (12, mo v_r v_i v_j)), (v_r 3, .inl (cI, 120000, .inl (upd v_wordAt_v (v_i 19).toNatClampNeg a))), (v_r 4, .inl (cI, 120000, .inl (upd v_wordSize_v (v_i 19).toNatClampNeg n))), (v_r 7, .inl (cI, 120000, .inl (upd v_meaning_v (v_i 19).toNatClampNeg 0))), (v_r 9, .inl (cJ, 120000, .inr (.inl v_quote_v)))] := hD
  refine lv_aload_n hx hb d_Model_newWord_30 rfl (lv_at hl 0 rfl) ?_
  refine va_get (D := (dC, dI)) (ci := 12) (v := .ref (v_r 9)) (C := R_Model) (T := F_Model) (N := 127) hx hb htt iw_Model hown hK hP 0 rfl rfl 9 (by decide) (htt _ lk_Model_28) (fun _ h9 => h9) rfl d_Model_newWord_31 ?_
  refine lv_aload_n hx hb d_Model_newWord_34 rfl (lv_at hl 0 rfl) ?_
  refine va_get (D := (dC, dI)) (ci := 12) (v := .int (v_i 19)) (C := R_Model) (T := F_Model) (N := 127) hx hb htt iw_Model hown hK hP 0 rfl rfl 19 (by decide) (htt _ lk_Model_19) (fun _ h9 => h9) rfl d_Model_newWord_35 ?_
  refine lv_ldc2 (v := 3) hx hb hown (htt _ lk_Model_7) d_Model_newWord_38 ?_
  have h_4 : vp_in (v_i 19) 120000 := hn1
  refine va_last hx hb hK hP hD hS 4 1 rfl rfl h_4 d_Model_newWord_41 (fun H locs hP hD hS => ?_)
  have hP : va_P (dC, dI) classes [(h0, .inr (12, mo v_r v_i v_j)), (v_r 3, .inl (cI, 120000, .inl (upd v_wordAt_v (v_i 19).toNatClampNeg a))), (v_r 4, .inl (cI, 120000, .inl (upd v_wordSize_v (v_i 19).toNatClampNeg n))), (v_r 7, .inl (cI, 120000, .inl (upd v_meaning_v (v_i 19).toNatClampNeg 0))), (v_r 9, .inl (cJ, 120000, .inr (.inl (vp_updL v_quote_v (v_i 19).toNatClampNeg 3))))] H := hP
  have hD : va_D A [(h0, .inr (12, mo v_r v_i v_j)), (v_r 3, .inl (cI, 120000, .inl (upd v_wordAt_v (v_i 19).toNatClampNeg a))), (v_r 4, .inl (cI, 120000, .inl (upd v_wordSize_v (v_i 19).toNatClampNeg n))), (v_r 7, .inl (cI, 120000, .inl (upd v_meaning_v (v_i 19).toNatClampNeg 0))), (v_r 9, .inl (cJ, 120000, .inr (.inl (vp_updL v_quote_v (v_i 19).toNatClampNeg 3))))] := hD
  refine lv_aload_n hx hb d_Model_newWord_42 rfl (lv_at hl 0 rfl) ?_
  refine lv_dup hx hb d_Model_newWord_43 rfl ?_
  refine va_get (D := (dC, dI)) (ci := 12) (v := .int (v_i 19)) (C := R_Model) (T := F_Model) (N := 127) hx hb htt iw_Model hown hK hP 0 rfl rfl 19 (by decide) (htt _ lk_Model_19) (fun _ h9 => h9) rfl d_Model_newWord_44 ?_
  refine lv_iconst (v := 1) hx hb d_Model_newWord_47 (by decide) ?_
  refine lv_iadd hx hb d_Model_newWord_48 ?_
  refine lv_topi (fun x_5 ex_5 => ?_)
  refine va_put (D := (dC, dI)) (ci := 12) (v := .int x_5) (ty := .int) (C := R_Model) (T := F_Model) (N := 127) hx hb htt iw_Model t_Model t_Model_ok n_Model hown hK hP hD hS 0 rfl rfl 19 (by decide) (htt _ lk_Model_19) (fun _ h9 => h9) rfl (by decide +kernel) rfl rfl (Nat.le_of_ble_eq_true rfl) d_Model_newWord_49 (fun H locs hP hD hS => ?_)
  have hP : va_P (dC, dI) classes [(h0, .inr (12, mo v_r (upd v_i 19 x_5) v_j)), (v_r 3, .inl (cI, 120000, .inl (upd v_wordAt_v (v_i 19).toNatClampNeg a))), (v_r 4, .inl (cI, 120000, .inl (upd v_wordSize_v (v_i 19).toNatClampNeg n))), (v_r 7, .inl (cI, 120000, .inl (upd v_meaning_v (v_i 19).toNatClampNeg 0))), (v_r 9, .inl (cJ, 120000, .inr (.inl (vp_updL v_quote_v (v_i 19).toNatClampNeg 3))))] H := hP
  have hD : va_D A [(h0, .inr (12, mo v_r (upd v_i 19 x_5) v_j)), (v_r 3, .inl (cI, 120000, .inl (upd v_wordAt_v (v_i 19).toNatClampNeg a))), (v_r 4, .inl (cI, 120000, .inl (upd v_wordSize_v (v_i 19).toNatClampNeg n))), (v_r 7, .inl (cI, 120000, .inl (upd v_meaning_v (v_i 19).toNatClampNeg 0))), (v_r 9, .inl (cJ, 120000, .inr (.inl (vp_updL v_quote_v (v_i 19).toNatClampNeg 3))))] := hD
  refine lv_aload_n hx hb d_Model_newWord_52 rfl (lv_at hl 0 rfl) ?_
  refine va_get (D := (dC, dI)) (ci := 12) (v := .int x_5) (C := R_Model) (T := F_Model) (N := 127) hx hb htt iw_Model hown hK hP 0 rfl rfl 19 (by decide) (htt _ lk_Model_19) (fun _ h9 => h9) rfl d_Model_newWord_53 ?_
  refine lv_iconst (v := 1) hx hb d_Model_newWord_56 (by decide) ?_
  refine lv_isub hx hb d_Model_newWord_57 ?_
  subst ex_5
  have hP9 := hP.sub (ws' := [(h0, .inr (12, mo v_r (upd v_i 19 ((v_i 19) + 1)) v_j)), (v_r 3, .inl (cI, 120000, .inl (upd v_wordAt_v (v_i 19).toNatClampNeg a))), (v_r 4, .inl (cI, 120000, .inl (upd v_wordSize_v (v_i 19).toNatClampNeg n))), (v_r 7, .inl (cI, 120000, .inl (upd v_meaning_v (v_i 19).toNatClampNeg 0))), (v_r 9, .inl (cJ, 120000, .inr (.inl (vp_updL v_quote_v (v_i 19).toNatClampNeg 3))))]) [0, 1, 2, 3, 4] rfl
  have hD9 := hD.sub (ws' := [(h0, .inr (12, mo v_r (upd v_i 19 ((v_i 19) + 1)) v_j)), (v_r 3, .inl (cI, 120000, .inl (upd v_wordAt_v (v_i 19).toNatClampNeg a))), (v_r 4, .inl (cI, 120000, .inl (upd v_wordSize_v (v_i 19).toNatClampNeg n))), (v_r 7, .inl (cI, 120000, .inl (upd v_meaning_v (v_i 19).toNatClampNeg 0))), (v_r 9, .inl (cJ, 120000, .inr (.inl (vp_updL v_quote_v (v_i 19).toNatClampNeg 3))))]) [0, 1, 2, 3, 4] (by decide) rfl
  have eW : [(h0, .inr (12, mo v_r (upd v_i 19 ((v_i 19) + 1)) v_j)), (v_r 3, .inl (cI, 120000, .inl (upd v_wordAt_v (v_i 19).toNatClampNeg a))), (v_r 4, .inl (cI, 120000, .inl (upd v_wordSize_v (v_i 19).toNatClampNeg n))), (v_r 7, .inl (cI, 120000, .inl (upd v_meaning_v (v_i 19).toNatClampNeg 0))), (v_r 9, .inl (cJ, 120000, .inr (.inl (vp_updL v_quote_v (v_i 19).toNatClampNeg 3))))] = ([(h0, .inr (12, mo v_r (m_Model_newWord_w0_i v_i) v_j)), (v_r 3, .inl (cI, 120000, .inl (m_Model_newWord_w1 v_i v_wordAt_v a))), (v_r 4, .inl (cI, 120000, .inl (m_Model_newWord_w2 v_i v_wordSize_v n))), (v_r 7, .inl (cI, 120000, .inl (m_Model_newWord_w3 v_i v_meaning_v))), (v_r 9, .inl (cJ, 120000, .inr (.inl (m_Model_newWord_w4 v_i v_quote_v))))] : va_W) := by unfold m_Model_newWord_w0_i m_Model_newWord_w1 m_Model_newWord_w2 m_Model_newWord_w3 m_Model_newWord_w4; rfl
  rw [eW] at hP9 hD9
  exact W.iret (v := ((v_i 19) + 1) - 1) hx hb hr (fun t9 ht hW => ⟨⟨((v_i 19) + 1) - 1, (), rfl, by unfold m_Model_newWord_r; rfl, by rw [ht]; exact hP9, va_K.moved hW.alike hK, hD9⟩, hS.F ht⟩) hS.2.2 d_Model_newWord_58
