theorem d_Model_sameWord_0 : decode b_Model_sameWord 0 = .ok (.aload_n 0, 1) := by decide +kernel
theorem d_Model_sameWord_1 : decode b_Model_sameWord 1 = .ok (.aload_n 0, 1) := by decide +kernel
theorem d_Model_sameWord_2 : decode b_Model_sameWord 2 = .ok (.getfield 15, 3) := by decide +kernel
theorem d_Model_sameWord_5 : decode b_Model_sameWord 5 = .ok (.iload_n 1, 1) := by decide +kernel
theorem d_Model_sameWord_6 : decode b_Model_sameWord 6 = .ok (.iaload, 1) := by decide +kernel
theorem d_Model_sameWord_7 : decode b_Model_sameWord 7 = .ok (.aload_n 0, 1) := by decide +kernel
theorem d_Model_sameWord_8 : decode b_Model_sameWord 8 = .ok (.getfield 22, 3) := by decide +kernel
theorem d_Model_sameWord_11 : decode b_Model_sameWord 11 = .ok (.iload_n 1, 1) := by decide +kernel
theorem d_Model_sameWord_12 : decode b_Model_sameWord 12 = .ok (.iaload, 1) := by decide +kernel
theorem d_Model_sameWord_13 : decode b_Model_sameWord 13 = .ok (.aload_n 0, 1) := by decide +kernel
theorem d_Model_sameWord_14 : decode b_Model_sameWord 14 = .ok (.getfield 15, 3) := by decide +kernel
theorem d_Model_sameWord_17 : decode b_Model_sameWord 17 = .ok (.iload_n 2, 1) := by decide +kernel
theorem d_Model_sameWord_18 : decode b_Model_sameWord 18 = .ok (.iaload, 1) := by decide +kernel
theorem d_Model_sameWord_19 : decode b_Model_sameWord 19 = .ok (.aload_n 0, 1) := by decide +kernel
theorem d_Model_sameWord_20 : decode b_Model_sameWord 20 = .ok (.getfield 22, 3) := by decide +kernel
theorem d_Model_sameWord_23 : decode b_Model_sameWord 23 = .ok (.iload_n 2, 1) := by decide +kernel
theorem d_Model_sameWord_24 : decode b_Model_sameWord 24 = .ok (.iaload, 1) := by decide +kernel
theorem d_Model_sameWord_25 : decode b_Model_sameWord 25 = .ok (.invokevirtual 71, 3) := by decide +kernel
theorem d_Model_sameWord_28 : decode b_Model_sameWord 28 = .ok (.ireturn, 1) := by decide +kernel
theorem lk_Model_71 : Cond.methodLink "TurtleWorldModel" 71 ⟨"TurtleWorldModel", "sameLetters", "(IIII)Z"⟩ ∈ tw_T := tw_i10 79 (by decide +kernel) (by decide +kernel)
theorem in_Model_sameLetters : Cond.instanceMethod ⟨"TurtleWorldModel", "sameLetters", "(IIII)Z"⟩ ∈ tw_T := tw_i10 81 (by decide +kernel) (by decide +kernel)
theorem sel_Model_sameLetters : Cond.selects "TurtleWorldModel" ⟨"TurtleWorldModel", "sameLetters", "(IIII)Z"⟩ ⟨"TurtleWorldModel", "sameLetters", "(IIII)Z"⟩ ∈ tw_T := tw_inS 100 (by decide +kernel) (by decide +kernel)
theorem d_Model_procedureOf_0 : decode b_Model_procedureOf 0 = .ok (.iconst 0, 1) := by decide +kernel
theorem d_Model_procedureOf_1 : decode b_Model_procedureOf 1 = .ok (.istore_n 2, 1) := by decide +kernel
theorem d_Model_procedureOf_2 : decode b_Model_procedureOf 2 = .ok (.iload_n 2, 1) := by decide +kernel
theorem d_Model_procedureOf_3 : decode b_Model_procedureOf 3 = .ok (.aload_n 0, 1) := by decide +kernel
theorem d_Model_procedureOf_4 : decode b_Model_procedureOf 4 = .ok (.getfield 344, 3) := by decide +kernel
theorem d_Model_procedureOf_7 : decode b_Model_procedureOf 7 = .ok (.if_icmp .ge 25, 3) := by decide +kernel
theorem d_Model_procedureOf_10 : decode b_Model_procedureOf 10 = .ok (.aload_n 0, 1) := by decide +kernel
theorem d_Model_procedureOf_11 : decode b_Model_procedureOf 11 = .ok (.aload_n 0, 1) := by decide +kernel
theorem d_Model_procedureOf_12 : decode b_Model_procedureOf 12 = .ok (.getfield 183, 3) := by decide +kernel
theorem d_Model_procedureOf_15 : decode b_Model_procedureOf 15 = .ok (.iload_n 2, 1) := by decide +kernel
theorem d_Model_procedureOf_16 : decode b_Model_procedureOf 16 = .ok (.iaload, 1) := by decide +kernel
theorem d_Model_procedureOf_17 : decode b_Model_procedureOf 17 = .ok (.iload_n 1, 1) := by decide +kernel
theorem d_Model_procedureOf_18 : decode b_Model_procedureOf 18 = .ok (.invokevirtual 91, 3) := by decide +kernel
theorem d_Model_procedureOf_21 : decode b_Model_procedureOf 21 = .ok (.ifCond .eq 5, 3) := by decide +kernel
theorem d_Model_procedureOf_24 : decode b_Model_procedureOf 24 = .ok (.iload_n 2, 1) := by decide +kernel
theorem d_Model_procedureOf_25 : decode b_Model_procedureOf 25 = .ok (.ireturn, 1) := by decide +kernel
theorem d_Model_procedureOf_26 : decode b_Model_procedureOf 26 = .ok (.iinc 2 1, 3) := by decide +kernel
theorem d_Model_procedureOf_29 : decode b_Model_procedureOf 29 = .ok (.goto (-27), 3) := by decide +kernel
theorem d_Model_procedureOf_32 : decode b_Model_procedureOf 32 = .ok (.iconst (-1), 1) := by decide +kernel
theorem d_Model_procedureOf_33 : decode b_Model_procedureOf 33 = .ok (.ireturn, 1) := by decide +kernel
theorem lk_Model_183 : Cond.fieldLink "TurtleWorldModel" 183 "TurtleWorldModel" "procName" "[I" ∈ tw_T := tw_i8 107 (by decide +kernel) (by decide +kernel)
theorem lk_Model_91 : Cond.methodLink "TurtleWorldModel" 91 ⟨"TurtleWorldModel", "sameWord", "(II)Z"⟩ ∈ tw_T := tw_i10 75 (by decide +kernel) (by decide +kernel)
theorem in_Model_sameWord : Cond.instanceMethod ⟨"TurtleWorldModel", "sameWord", "(II)Z"⟩ ∈ tw_T := tw_i10 77 (by decide +kernel) (by decide +kernel)
theorem sel_Model_sameWord : Cond.selects "TurtleWorldModel" ⟨"TurtleWorldModel", "sameWord", "(II)Z"⟩ ⟨"TurtleWorldModel", "sameWord", "(II)Z"⟩ ∈ tw_T := tw_inS 99 (by decide +kernel) (by decide +kernel)
theorem sl_L01 (lt : Nat → Int32) (a k b d : Int32) : ∀ (n i : Nat), m_Model_sameLetters_L11_r lt a k b d n i = 0 ∨ m_Model_sameLetters_L11_r lt a k b d n i = 1 := by
  intro n
  induction n with
  | zero => intro i; exact Or.inl rfl
  | succ n ih =>
    intro i
    simp only [m_Model_sameLetters_L11_r]
    repeat' split
    all_goals first | exact Or.inl rfl | exact Or.inr rfl | exact ih _
theorem sl_01 (lt : Nat → Int32) (a k b d : Int32) : m_Model_sameLetters_r lt a k b d = 0 ∨ m_Model_sameLetters_r lt a k b d = 1 := by
  unfold m_Model_sameLetters_r
  split
  · exact sl_L01 _ _ _ _ _ _ _
  · exact Or.inl rfl

def m_Model_sameWord_r (v_wordAt_v : Nat → Int32) (v_wordSize_v : Nat → Int32) (v_letter_v : Nat → Int32) (a : Int32) (b : Int32) : Int32 := m_Model_sameLetters_r v_letter_v (v_wordAt_v a.toNatClampNeg) (v_wordSize_v a.toNatClampNeg) (v_wordAt_v b.toNatClampNeg) (v_wordSize_v b.toNatClampNeg)
theorem m_Model_sameWord_z {v_wordAt_v : Nat → Int32} {v_wordSize_v : Nat → Int32} {v_letter_v : Nat → Int32} {a : Int32} {b : Int32} : narrow .boolean (.int (m_Model_sameWord_r v_wordAt_v v_wordSize_v v_letter_v a b)) = .int (m_Model_sameWord_r v_wordAt_v v_wordSize_v v_letter_v a b) := by
  unfold m_Model_sameWord_r
  repeat' split
  all_goals first | exact z01 (sl_01 _ _ _ _ _) | rfl | decide
set_option maxHeartbeats 4000000 in
set_option maxRecDepth 100000 in
/-- whether two WORDS of the reference are the same -/
theorem c_Model_sameWord (l : Launch) (dC : Nat → ClassId) (dI : Nat → Nat → Nat) (sz : Nat) (h0 : Nat) (v_r : Nat → Nat) (v_i : Nat → Int32) (v_j : Nat → Int64) (v_wordAt_v : Nat → Int32) (v_wordSize_v : Nat → Int32) (v_letter_v : Nat → Int32) (cI : ClassId) (cJ : ClassId) (cB : ClassId) (a : Int32) (b : Int32) (hwa : vp_in a 120000) (hwb : vp_in b 120000) (hlw : ∀ j : Nat, 0 ≤ (v_wordAt_v j).toInt ∧ (v_wordAt_v j).toInt + (v_wordSize_v j).toInt ≤ 300000) : Met l y_Model_sameWord w_Model_sameWord ({ frames := 1, cells := 0, slots := 0, locals := 25 }) (va_Pc [.ref h0, .int a, .int b] (fun U => U.heap.size = sz ∧ va_P (dC, dI) classes [(h0, .inr (12, mo v_r v_i v_j)), (v_r 3, .inl (cI, 120000, .inl v_wordAt_v)), (v_r 4, .inl (cI, 120000, .inl v_wordSize_v)), (v_r 1, .inl (cB, 300000, .inl v_letter_v))] U.heap ∧ va_K (dC, dI) classes [(cI, .int), (cJ, .long), (cB, .byte)] U ∧ va_D (fun _ => True) [(h0, .inr (12, mo v_r v_i v_j)), (v_r 3, .inl (cI, 120000, .inl v_wordAt_v)), (v_r 4, .inl (cI, 120000, .inl v_wordSize_v)), (v_r 1, .inl (cB, 300000, .inl v_letter_v))])) (va_Qi (fun (r : Int32) (_ : Unit) => r = m_Model_sameWord_r v_wordAt_v v_wordSize_v v_letter_v a b) (fun (_ : Unit) t => va_P (dC, dI) classes [(h0, .inr (12, mo v_r v_i v_j)), (v_r 3, .inl (cI, 120000, .inl v_wordAt_v)), (v_r 4, .inl (cI, 120000, .inl v_wordSize_v)), (v_r 1, .inl (cB, 300000, .inl v_letter_v))] t.heap ∧ va_K (dC, dI) classes [(cI, .int), (cJ, .long), (cB, .byte)] t ∧ va_D (va_A [(h0, .inr (12, mo v_r v_i v_j)), (v_r 3, .inl (cI, 120000, .inl v_wordAt_v)), (v_r 4, .inl (cI, 120000, .inl v_wordSize_v)), (v_r 1, .inl (cB, 300000, .inl v_letter_v))] sz) [(h0, .inr (12, mo v_r v_i v_j)), (v_r 3, .inl (cI, 120000, .inl v_wordAt_v)), (v_r 4, .inl (cI, 120000, .inl v_wordSize_v)), (v_r 1, .inl (cB, 300000, .inl v_letter_v))]) (va_A [(h0, .inr (12, mo v_r v_i v_j)), (v_r 3, .inl (cI, 120000, .inl v_wordAt_v)), (v_r 4, .inl (cI, 120000, .inl v_wordSize_v)), (v_r 1, .inl (cB, 300000, .inl v_letter_v))] sz)) 0 0 (va_A [(h0, .inr (12, mo v_r v_i v_j)), (v_r 3, .inl (cI, 120000, .inl v_wordAt_v)), (v_r 4, .inl (cI, 120000, .inl v_wordSize_v)), (v_r 1, .inl (cB, 300000, .inl v_letter_v))] sz) := by
  refine Met.ofW (cc := b_Model_sameWord) (maxL := 3) (ret := (some .boolean)) (by decide) rfl ?_
  intro p e s m args below meth c s₁ B hml hv
  obtain ⟨rfl, hsz, hP, hK, hD0⟩ := hv
  have hx := B.exec
  have hb := B.bytes
  have hr := B.returns
  have hts := atoms_spec (ws := w_Model_sameWord) B.pre
  have htt : ∀ w ∈ tw_T, w.before _ s = true := fun w h => hts w (List.mem_cons_of_mem _ h)
  have hown : s.vm.findClass R_Model = some m.cls := findClass_of_methodNamed B.named
  have hlocks := B.notSynchronized
  subst hsz
  have hD := hD0.self (sz := s.heap.size)
  generalize hAe : va_A [(h0, .inr (12, mo v_r v_i v_j)), (v_r 3, .inl (cI, 120000, .inl v_wordAt_v)), (v_r 4, .inl (cI, 120000, .inl v_wordSize_v)), (v_r 1, .inl (cB, 300000, .inl v_letter_v))] s.heap.size = A at hD ⊢
  have hA : ∀ q : Nat, s.heap.size ≤ q → A q := fun q h => by rw [← hAe]; exact Or.inr h
  have hS : va_S A s.heap s.heap [] := va_S.rf
  have hP : va_P (dC, dI) classes [(h0, .inr (12, mo v_r v_i v_j)), (v_r 3, .inl (cI, 120000, .inl v_wordAt_v)), (v_r 4, .inl (cI, 120000, .inl v_wordSize_v)), (v_r 1, .inl (cB, 300000, .inl v_letter_v))] s.heap := hP
  have hl := lv_entry ([.ref h0, .int a, .int b]) (n := 3) (Nat.le_of_ble_eq_true rfl)
  rw [lg_entry_eq]
  generalize (lg_sl ([.ref h0, .int a, .int b]) ++ List.replicate (3 - (lg_sl ([.ref h0, .int a, .int b])).length) Slot.unset).toArray = ls at hl ⊢
  have hl : lv_has ls 3 [(0, .ref h0), (1, .int a), (2, .int b)] := hl
  refine lv_aload_n hx hb d_Model_sameWord_0 rfl (lv_at hl 0 rfl) ?_
  refine lv_aload_n hx hb d_Model_sameWord_1 rfl (lv_at hl 0 rfl) ?_
  refine va_get (D := (dC, dI)) (ci := 12) (v := .ref (v_r 3)) (C := R_Model) (T := F_Model) (N := 127) hx hb htt iw_Model hown hK hP 0 rfl rfl 3 (by decide) (htt _ lk_Model_15) (fun _ h9 => h9) rfl d_Model_sameWord_2 ?_
  refine lv_iload_n hx hb d_Model_sameWord_5 rfl (lv_at hl 1 rfl) ?_
  have h_1 : vp_in a 120000 := hwa
  refine va_iald hx hb hK hP 1 0 rfl rfl h_1 d_Model_sameWord_6 ?_
  refine lv_aload_n hx hb d_Model_sameWord_7 rfl (lv_at hl 0 rfl) ?_
  refine va_get (D := (dC, dI)) (ci := 12) (v := .ref (v_r 4)) (C := R_Model) (T := F_Model) (N := 127) hx hb htt iw_Model hown hK hP 0 rfl rfl 4 (by decide) (htt _ lk_Model_22) (fun _ h9 => h9) rfl d_Model_sameWord_8 ?_
  refine lv_iload_n hx hb d_Model_sameWord_11 rfl (lv_at hl 1 rfl) ?_
  have h_2 : vp_in a 120000 := hwa
  refine va_iald hx hb hK hP 2 0 rfl rfl h_2 d_Model_sameWord_12 ?_
  refine lv_aload_n hx hb d_Model_sameWord_13 rfl (lv_at hl 0 rfl) ?_
  refine va_get (D := (dC, dI)) (ci := 12) (v := .ref (v_r 3)) (C := R_Model) (T := F_Model) (N := 127) hx hb htt iw_Model hown hK hP 0 rfl rfl 3 (by decide) (htt _ lk_Model_15) (fun _ h9 => h9) rfl d_Model_sameWord_14 ?_
  refine lv_iload_n hx hb d_Model_sameWord_17 rfl (lv_at hl 2 rfl) ?_
  have h_3 : vp_in b 120000 := hwb
  refine va_iald hx hb hK hP 1 0 rfl rfl h_3 d_Model_sameWord_18 ?_
  refine lv_aload_n hx hb d_Model_sameWord_19 rfl (lv_at hl 0 rfl) ?_
  refine va_get (D := (dC, dI)) (ci := 12) (v := .ref (v_r 4)) (C := R_Model) (T := F_Model) (N := 127) hx hb htt iw_Model hown hK hP 0 rfl rfl 4 (by decide) (htt _ lk_Model_22) (fun _ h9 => h9) rfl d_Model_sameWord_20 ?_
  refine lv_iload_n hx hb d_Model_sameWord_23 rfl (lv_at hl 2 rfl) ?_
  have h_4 : vp_in b 120000 := hwb
  refine va_iald hx hb hK hP 2 0 rfl rfl h_4 d_Model_sameWord_24 ?_
  have hPc := hP.sub (ws' := [(h0, .inr (12, mo v_r v_i v_j)), (v_r 1, .inl (cB, 300000, .inl v_letter_v))]) [0, 3] rfl
  have hDc := hD.sub (ws' := [(h0, .inr (12, mo v_r v_i v_j)), (v_r 1, .inl (cB, 300000, .inl v_letter_v))]) [0, 3] (by decide) rfl
  have hKc := hK.sub (tys' := [(cI, .int), (cJ, .long), (cB, .byte)]) [0, 1, 2] rfl
  have hFc := va_free (wc := [(h0, .inr (12, mo v_r v_i v_j)), (v_r 1, .inl (cB, 300000, .inl v_letter_v))]) hD hS hA [0, 3] rfl
  refine va_calli (va_runV (As := [.int (v_wordAt_v a.toNatClampNeg), .int (v_wordSize_v a.toNatClampNeg), .int (v_wordAt_v b.toNatClampNeg), .int (v_wordSize_v b.toNatClampNeg)]) (rest := []) ⟨hx, hb, hml, hown, hts⟩ (c_Model_sameLetters l dC dI s.heap.size h0 v_r v_i v_j v_letter_v cI cJ cB (v_wordAt_v a.toNatClampNeg) (v_wordSize_v a.toNatClampNeg) (v_wordAt_v b.toNatClampNeg) (v_wordSize_v b.toNatClampNeg) (hlw _).1 (hlw _).1 (hlw _).2 (hlw _).2) (cwV 4 hts (tw_GV tw_cons cw_Model_sameLetters lk_Model_71 in_Model_sameLetters sel_Model_sameLetters ini_Model) rfl rfl rfl (by decide +kernel) ⟨Nat.le_of_ble_eq_true rfl, Nat.le_of_ble_eq_true rfl⟩) ⟨fun a U g mk q => by obtain ⟨q0, q1, qP, qK, qD⟩ := q; exact ⟨q0, q1, qP, va_K.moved (u := U) (U := U.calling g mk a) (Vm.Alike.refl U.vm) qK, qD⟩, va_recv hKc hPc (ci := 12) (q0 := 0) rfl rfl, fun U hU hW => ⟨rfl, by rw [hU], by rw [hU]; exact hPc, va_K.moved hW.alike hKc, hDc.weaken (fun _ _ _ _ => trivial)⟩⟩ rfl rfl hl.1 rfl (lv_room (Nat.le_of_ble_eq_true rfl)) d_Model_sameWord_25 ⟨Nat.le_of_ble_eq_true rfl, Nat.le_of_ble_eq_true rfl⟩) hS (fun q _ h => hFc q h) hFc (fun r9 u9 t9 H1 locs ht hvm e9 hB hz1 hk1 hS => ?_)
  obtain ⟨hP1, hK1, hD1⟩ := hB
  rw [ht] at hP1
  obtain ⟨hP, hD⟩ := va_join (wr := [(v_r 3, .inl (cI, 120000, .inl v_wordAt_v)), (v_r 4, .inl (cI, 120000, .inl v_wordSize_v))]) (w1 := [(h0, .inr (12, mo v_r v_i v_j)), (v_r 1, .inl (cB, 300000, .inl v_letter_v))]) hP hD [0, 3] [1, 2] rfl rfl (by decide) (by decide) hk1 hFc hP1 hD1
  subst e9
  clear hP1 hD1 hK1 hvm hz1 hk1 hFc hKc hDc hPc
  subst ht
  generalize t9.heap = H at hP hS ⊢
  have hP : va_P (dC, dI) classes [(v_r 3, .inl (cI, 120000, .inl v_wordAt_v)), (v_r 4, .inl (cI, 120000, .inl v_wordSize_v)), (h0, .inr (12, mo v_r v_i v_j)), (v_r 1, .inl (cB, 300000, .inl v_letter_v))] H := hP
  have hD : va_D A [(v_r 3, .inl (cI, 120000, .inl v_wordAt_v)), (v_r 4, .inl (cI, 120000, .inl v_wordSize_v)), (h0, .inr (12, mo v_r v_i v_j)), (v_r 1, .inl (cB, 300000, .inl v_letter_v))] := hD
  have hP9 := hP.sub (ws' := [(h0, .inr (12, mo v_r v_i v_j)), (v_r 3, .inl (cI, 120000, .inl v_wordAt_v)), (v_r 4, .inl (cI, 120000, .inl v_wordSize_v)), (v_r 1, .inl (cB, 300000, .inl v_letter_v))]) [2, 0, 1, 3] rfl
  have hD9 := hD.sub (ws' := [(h0, .inr (12, mo v_r v_i v_j)), (v_r 3, .inl (cI, 120000, .inl v_wordAt_v)), (v_r 4, .inl (cI, 120000, .inl v_wordSize_v)), (v_r 1, .inl (cB, 300000, .inl v_letter_v))]) [2, 0, 1, 3] (by decide) rfl
  exact W.zret (v := m_Model_sameLetters_r v_letter_v (v_wordAt_v a.toNatClampNeg) (v_wordSize_v a.toNatClampNeg) (v_wordAt_v b.toNatClampNeg) (v_wordSize_v b.toNatClampNeg)) hx hb hr (by first | exact z01 (sl_01 _ _ _ _ _) | exact z01 (Or.inl rfl) | exact z01 (Or.inr rfl)) (fun t9 ht hW => ⟨⟨m_Model_sameLetters_r v_letter_v (v_wordAt_v a.toNatClampNeg) (v_wordSize_v a.toNatClampNeg) (v_wordAt_v b.toNatClampNeg) (v_wordSize_v b.toNatClampNeg), (), rfl, by unfold m_Model_sameWord_r; rfl, by rw [ht]; exact hP9, va_K.moved hW.alike hK, hD9⟩, hS.F ht⟩) hS.2.2 d_Model_sameWord_28

def m_Model_procedureOf_L2_r (v_i : Nat → Int32) (v_wordAt_v : Nat → Int32) (v_wordSize_v : Nat → Int32) (v_letter_v : Nat → Int32) (v_procName_v : Nat → Int32) (a : Int32) : Nat → Nat → Int32
  | 0, _ => 0
  | n + 1, i => if ((v_i 33)) ≤ ((nI i)) then (-1) else if ((m_Model_sameWord_r v_wordAt_v v_wordSize_v v_letter_v (v_procName_v (nI i).toNatClampNeg) a)) = ((0 : Int32)) then m_Model_procedureOf_L2_r v_i v_wordAt_v v_wordSize_v v_letter_v v_procName_v a n (i + 1) else nI i
def m_Model_procedureOf_r (v_i : Nat → Int32) (v_wordAt_v : Nat → Int32) (v_wordSize_v : Nat → Int32) (v_letter_v : Nat → Int32) (v_procName_v : Nat → Int32) (a : Int32) : Int32 := m_Model_procedureOf_L2_r v_i v_wordAt_v v_wordSize_v v_letter_v v_procName_v a (((v_i 33).toInt - 0).toNat + 1) 0
set_option maxHeartbeats 4000000 in
set_option maxRecDepth 100000 in
theorem lp_Model_procedureOf_2 (l : Launch) (dC : Nat → ClassId) (dI : Nat → Nat → Nat) (h0 : Nat) (v_r : Nat → Nat) (v_i : Nat → Int32) (v_j : Nat → Int64) (v_wordAt_v : Nat → Int32) (v_wordSize_v : Nat → Int32) (v_letter_v : Nat → Int32) (v_procName_v : Nat → Int32) (cI : ClassId) (cJ : ClassId) (cB : ClassId) (a : Int32) (hwa : vp_in a 120000) (hpn : ∀ j : Nat, vp_in (v_procName_v j) 120000) (hlw : ∀ j : Nat, 0 ≤ (v_wordAt_v j).toInt ∧ (v_wordAt_v j).toInt + (v_wordSize_v j).toInt ≤ 300000) (hpc : v_i 33 ≤ 40) {p : Program} {e : Env} {s : State} {m : MethodId} {below : List Frame} {meth : Method} {c : Code} {A : Nat → Prop} (hx : p.tables.exec = Jvm.exec) (hb : c.code = b_Model_procedureOf) (hml : c.maxLocals = 3) (hown : s.vm.findClass R_Model = some m.cls) (hts : ∀ w ∈ w_Model_procedureOf, w.before ([.ref h0, .int a] : List Value).toArray s = true) (hK : va_K (dC, dI) classes [(cI, .int), (cJ, .long), (cB, .byte)] s) (hA : ∀ q : Nat, s.heap.size ≤ q → A q) (hr : meth.sig.returnType = (some .int)) (hlocks : meth.locks = false) (RV0 : Int32) : ∀ (n : Nat) (i : Nat), (i : Int) ≤ (v_i 33).toInt ∨ i = 0 → ((v_i 33).toInt - i).toNat < n → m_Model_procedureOf_L2_r v_i v_wordAt_v v_wordSize_v v_letter_v v_procName_v a n i = RV0 → ∀ (H : Heap) (locs : List Loc) (ls : Array Slot), va_P (dC, dI) classes [(h0, .inr (12, mo v_r v_i v_j)), (v_r 3, .inl (cI, 120000, .inl v_wordAt_v)), (v_r 4, .inl (cI, 120000, .inl v_wordSize_v)), (v_r 1, .inl (cB, 300000, .inl v_letter_v)), (v_r 29, .inl (cI, 40, .inl v_procName_v))] H → va_D A [(h0, .inr (12, mo v_r v_i v_j)), (v_r 3, .inl (cI, 120000, .inl v_wordAt_v)), (v_r 4, .inl (cI, 120000, .inl v_wordSize_v)), (v_r 1, .inl (cB, 300000, .inl v_letter_v)), (v_r 29, .inl (cI, 40, .inl v_procName_v))] → va_S A s.heap H locs → lv_has ls 3 [(2, .int (nI i)), (0, .ref h0), (1, .int a)] → W p l e ({ frames := 2, cells := 0, slots := 0, locals := 47 } : Room) s m ([.ref h0, .int a] : List Value).toArray below meth c H locs 0 0 (MQ below (va_Qi (fun (r : Int32) (_ : Unit) => r = RV0) (fun (_ : Unit) t => va_P (dC, dI) classes [(h0, .inr (12, mo v_r v_i v_j)), (v_r 3, .inl (cI, 120000, .inl v_wordAt_v)), (v_r 4, .inl (cI, 120000, .inl v_wordSize_v)), (v_r 1, .inl (cB, 300000, .inl v_letter_v)), (v_r 29, .inl (cI, 40, .inl v_procName_v))] t.heap ∧ va_K (dC, dI) classes [(cI, .int), (cJ, .long), (cB, .byte)] t ∧ va_D A [(h0, .inr (12, mo v_r v_i v_j)), (v_r 3, .inl (cI, 120000, .inl v_wordAt_v)), (v_r 4, .inl (cI, 120000, .inl v_wordSize_v)), (v_r 1, .inl (cB, 300000, .inl v_letter_v)), (v_r 29, .inl (cI, 40, .inl v_procName_v))]) A) ([.ref h0, .int a] : List Value).toArray s 0 0 A) (F0 m 2 ls []) := by
  have htt : ∀ w ∈ tw_T, w.before _ s = true := fun w h => hts w (List.mem_cons_of_mem _ h)
  intro n
  induction n with
  | zero =>
    intro i hi hmu
    exact absurd hmu (Nat.not_lt_zero _)
  | succ n ih =>
    intro i hi hmu hR0 H locs ls hP hD hS hl
    refine lv_iload_n hx hb d_Model_procedureOf_2 rfl (lv_at hl 0 rfl) ?_
    refine lv_aload_n hx hb d_Model_procedureOf_3 rfl (lv_at hl 1 rfl) ?_
    refine va_get (D := (dC, dI)) (ci := 12) (v := .int (v_i 33)) (C := R_Model) (T := F_Model) (N := 127) hx hb htt iw_Model hown hK hP 0 rfl rfl 33 (by decide) (htt _ lk_Model_344) (fun _ h9 => h9) rfl d_Model_procedureOf_4 ?_
    refine lv_icmp_ge (tgt := 32) hx hb d_Model_procedureOf_7 (by decide) (fun c_1 => ?_) (fun c_1 => ?_)
    · refine lv_iconst (v := -1) hx hb d_Model_procedureOf_32 (by decide) ?_
      have hP9 := hP.sub (ws' := [(h0, .inr (12, mo v_r v_i v_j)), (v_r 3, .inl (cI, 120000, .inl v_wordAt_v)), (v_r 4, .inl (cI, 120000, .inl v_wordSize_v)), (v_r 1, .inl (cB, 300000, .inl v_letter_v)), (v_r 29, .inl (cI, 40, .inl v_procName_v))]) [0, 1, 2, 3, 4] rfl
      have hD9 := hD.sub (ws' := [(h0, .inr (12, mo v_r v_i v_j)), (v_r 3, .inl (cI, 120000, .inl v_wordAt_v)), (v_r 4, .inl (cI, 120000, .inl v_wordSize_v)), (v_r 1, .inl (cB, 300000, .inl v_letter_v)), (v_r 29, .inl (cI, 40, .inl v_procName_v))]) [0, 1, 2, 3, 4] (by decide) rfl
      exact W.iret (v := (-1)) hx hb hr (fun t9 ht hW => ⟨⟨(-1), (), rfl, by rw [← hR0]; simp only [m_Model_procedureOf_L2_r, if_pos c_1], by rw [ht]; exact hP9, va_K.moved hW.alike hK, hD9⟩, hS.F ht⟩) hS.2.2 d_Model_procedureOf_33
    · refine lv_aload_n hx hb d_Model_procedureOf_10 rfl (lv_at hl 1 rfl) ?_
      refine lv_aload_n hx hb d_Model_procedureOf_11 rfl (lv_at hl 1 rfl) ?_
      refine va_get (D := (dC, dI)) (ci := 12) (v := .ref (v_r 29)) (C := R_Model) (T := F_Model) (N := 127) hx hb htt iw_Model hown hK hP 0 rfl rfl 29 (by decide) (htt _ lk_Model_183) (fun _ h9 => h9) rfl d_Model_procedureOf_12 ?_
      refine lv_iload_n hx hb d_Model_procedureOf_15 rfl (lv_at hl 0 rfl) ?_
      have h_2 : vp_in (nI i) 40 := by have h8 := c_1; have h9 := hpc; simp only [Int32.lt_iff_toInt_lt, Int32.le_iff_toInt_le, Int32.reduceToInt] at h8 h9; rw [vp_in_iff]; rcases hi with hi | hi; all_goals (rw [nI_toInt (by omega)] at h8 ⊢; omega)
      refine va_iald hx hb hK hP 4 0 rfl rfl h_2 d_Model_procedureOf_16 ?_
      refine lv_iload_n hx hb d_Model_procedureOf_17 rfl (lv_at hl 2 rfl) ?_
      have hPc := hP.sub (ws' := [(h0, .inr (12, mo v_r v_i v_j)), (v_r 3, .inl (cI, 120000, .inl v_wordAt_v)), (v_r 4, .inl (cI, 120000, .inl v_wordSize_v)), (v_r 1, .inl (cB, 300000, .inl v_letter_v))]) [0, 1, 2, 3] rfl
      have hDc := hD.sub (ws' := [(h0, .inr (12, mo v_r v_i v_j)), (v_r 3, .inl (cI, 120000, .inl v_wordAt_v)), (v_r 4, .inl (cI, 120000, .inl v_wordSize_v)), (v_r 1, .inl (cB, 300000, .inl v_letter_v))]) [0, 1, 2, 3] (by decide) rfl
      have hKc := hK.sub (tys' := [(cI, .int), (cJ, .long), (cB, .byte)]) [0, 1, 2] rfl
      have hFc := va_free (wc := [(h0, .inr (12, mo v_r v_i v_j)), (v_r 3, .inl (cI, 120000, .inl v_wordAt_v)), (v_r 4, .inl (cI, 120000, .inl v_wordSize_v)), (v_r 1, .inl (cB, 300000, .inl v_letter_v))]) hD hS hA [0, 1, 2, 3] rfl
      refine va_calli (va_runV (As := [.int (v_procName_v (nI i).toNatClampNeg), .int a]) (rest := []) ⟨hx, hb, hml, hown, hts⟩ (c_Model_sameWord l dC dI H.size h0 v_r v_i v_j v_wordAt_v v_wordSize_v v_letter_v cI cJ cB (v_procName_v (nI i).toNatClampNeg) a (hpn _) (hwa) (hlw)) (cwV 2 hts (tw_GV tw_cons cw_Model_sameWord lk_Model_91 in_Model_sameWord sel_Model_sameWord ini_Model) rfl rfl rfl (by decide +kernel) ⟨Nat.le_of_ble_eq_true rfl, Nat.le_of_ble_eq_true rfl⟩) ⟨fun a U g mk q => by obtain ⟨q0, q1, qP, qK, qD⟩ := q; exact ⟨q0, q1, qP, va_K.moved (u := U) (U := U.calling g mk a) (Vm.Alike.refl U.vm) qK, qD⟩, va_recv hKc hPc (ci := 12) (q0 := 0) rfl rfl, fun U hU hW => ⟨rfl, by rw [hU], by rw [hU]; exact hPc, va_K.moved hW.alike hKc, hDc.weaken (fun _ _ _ _ => trivial)⟩⟩ rfl rfl hl.1 rfl (lv_room (Nat.le_of_ble_eq_true rfl)) d_Model_procedureOf_18 ⟨Nat.le_of_ble_eq_true rfl, Nat.le_of_ble_eq_true rfl⟩) hS (fun q _ h => hFc q h) hFc (fun r9 u9 t9 H1 locs ht hvm e9 hB hz1 hk1 hS => ?_)
      obtain ⟨hP1, hK1, hD1⟩ := hB
      rw [ht] at hP1
      obtain ⟨hP, hD⟩ := va_join (wr := [(v_r 29, .inl (cI, 40, .inl v_procName_v))]) (w1 := [(h0, .inr (12, mo v_r v_i v_j)), (v_r 3, .inl (cI, 120000, .inl v_wordAt_v)), (v_r 4, .inl (cI, 120000, .inl v_wordSize_v)), (v_r 1, .inl (cB, 300000, .inl v_letter_v))]) hP hD [0, 1, 2, 3] [4] rfl rfl (by decide) (by decide) hk1 hFc hP1 hD1
      subst e9
      clear hP1 hD1 hK1 hvm hz1 hk1 hFc hKc hDc hPc
      subst ht
      generalize t9.heap = H at hP hS ⊢
      have hP : va_P (dC, dI) classes [(v_r 29, .inl (cI, 40, .inl v_procName_v)), (h0, .inr (12, mo v_r v_i v_j)), (v_r 3, .inl (cI, 120000, .inl v_wordAt_v)), (v_r 4, .inl (cI, 120000, .inl v_wordSize_v)), (v_r 1, .inl (cB, 300000, .inl v_letter_v))] H := hP
      have hD : va_D A [(v_r 29, .inl (cI, 40, .inl v_procName_v)), (h0, .inr (12, mo v_r v_i v_j)), (v_r 3, .inl (cI, 120000, .inl v_wordAt_v)), (v_r 4, .inl (cI, 120000, .inl v_wordSize_v)), (v_r 1, .inl (cB, 300000, .inl v_letter_v))] := hD
      refine lv_if_eq (tgt := 26) hx hb d_Model_procedureOf_21 (by decide) (fun c_3 => ?_) (fun c_3 => ?_)
      · refine lv_iinc (v := nI (i + 1)) (lv' := [(2, .int (nI (i + 1))), (0, .ref h0), (1, .int a)]) hx hb d_Model_procedureOf_26 hl (k := 0) rfl (nI_1 _) (by decide) rfl (fun ls hl => ?_)
        refine lv_goto (tgt := 2) hx hb d_Model_procedureOf_29 (by decide) ?_
        exact ih (i + 1) (by have h8 := c_1; have h9 := hpc; simp only [Int32.lt_iff_toInt_lt, Int32.le_iff_toInt_le, Int32.reduceToInt] at h8 h9; rcases hi with hi | hi; all_goals (rw [nI_toInt (by omega)] at h8; omega)) (by have h8 := c_1; have h9 := hpc; simp only [Int32.lt_iff_toInt_lt, Int32.le_iff_toInt_le, Int32.reduceToInt] at h8 h9; rcases hi with hi | hi; all_goals (rw [nI_toInt (by omega)] at h8; omega)) (by rw [← hR0]; simp only [m_Model_procedureOf_L2_r, if_neg c_1, if_pos c_3]) _ _ _ (hP.sub [1, 2, 3, 4, 0] rfl) (hD.sub [1, 2, 3, 4, 0] (by decide) rfl) hS (lv_sub hl [0, 1, 2] rfl)
      · refine lv_iload_n hx hb d_Model_procedureOf_24 rfl (lv_at hl 0 rfl) ?_
        have hP9 := hP.sub (ws' := [(h0, .inr (12, mo v_r v_i v_j)), (v_r 3, .inl (cI, 120000, .inl v_wordAt_v)), (v_r 4, .inl (cI, 120000, .inl v_wordSize_v)), (v_r 1, .inl (cB, 300000, .inl v_letter_v)), (v_r 29, .inl (cI, 40, .inl v_procName_v))]) [1, 2, 3, 4, 0] rfl
        have hD9 := hD.sub (ws' := [(h0, .inr (12, mo v_r v_i v_j)), (v_r 3, .inl (cI, 120000, .inl v_wordAt_v)), (v_r 4, .inl (cI, 120000, .inl v_wordSize_v)), (v_r 1, .inl (cB, 300000, .inl v_letter_v)), (v_r 29, .inl (cI, 40, .inl v_procName_v))]) [1, 2, 3, 4, 0] (by decide) rfl
        exact W.iret (v := nI i) hx hb hr (fun t9 ht hW => ⟨⟨nI i, (), rfl, by rw [← hR0]; simp only [m_Model_procedureOf_L2_r, if_neg c_1, if_neg c_3], by rw [ht]; exact hP9, va_K.moved hW.alike hK, hD9⟩, hS.F ht⟩) hS.2.2 d_Model_procedureOf_25

set_option maxHeartbeats 4000000 in
set_option maxRecDepth 100000 in
/-- where a procedure of the reference is -/
theorem c_Model_procedureOf (l : Launch) (dC : Nat → ClassId) (dI : Nat → Nat → Nat) (sz : Nat) (h0 : Nat) (v_r : Nat → Nat) (v_i : Nat → Int32) (v_j : Nat → Int64) (v_wordAt_v : Nat → Int32) (v_wordSize_v : Nat → Int32) (v_letter_v : Nat → Int32) (v_procName_v : Nat → Int32) (cI : ClassId) (cJ : ClassId) (cB : ClassId) (a : Int32) (hwa : vp_in a 120000) (hpn : ∀ j : Nat, vp_in (v_procName_v j) 120000) (hlw : ∀ j : Nat, 0 ≤ (v_wordAt_v j).toInt ∧ (v_wordAt_v j).toInt + (v_wordSize_v j).toInt ≤ 300000) (hpc : v_i 33 ≤ 40) : Met l y_Model_procedureOf w_Model_procedureOf ({ frames := 2, cells := 0, slots := 0, locals := 47 }) (va_Pc [.ref h0, .int a] (fun U => U.heap.size = sz ∧ va_P (dC, dI) classes [(h0, .inr (12, mo v_r v_i v_j)), (v_r 3, .inl (cI, 120000, .inl v_wordAt_v)), (v_r 4, .inl (cI, 120000, .inl v_wordSize_v)), (v_r 1, .inl (cB, 300000, .inl v_letter_v)), (v_r 29, .inl (cI, 40, .inl v_procName_v))] U.heap ∧ va_K (dC, dI) classes [(cI, .int), (cJ, .long), (cB, .byte)] U ∧ va_D (fun _ => True) [(h0, .inr (12, mo v_r v_i v_j)), (v_r 3, .inl (cI, 120000, .inl v_wordAt_v)), (v_r 4, .inl (cI, 120000, .inl v_wordSize_v)), (v_r 1, .inl (cB, 300000, .inl v_letter_v)), (v_r 29, .inl (cI, 40, .inl v_procName_v))])) (va_Qi (fun (r : Int32) (_ : Unit) => r = m_Model_procedureOf_r v_i v_wordAt_v v_wordSize_v v_letter_v v_procName_v a) (fun (_ : Unit) t => va_P (dC, dI) classes [(h0, .inr (12, mo v_r v_i v_j)), (v_r 3, .inl (cI, 120000, .inl v_wordAt_v)), (v_r 4, .inl (cI, 120000, .inl v_wordSize_v)), (v_r 1, .inl (cB, 300000, .inl v_letter_v)), (v_r 29, .inl (cI, 40, .inl v_procName_v))] t.heap ∧ va_K (dC, dI) classes [(cI, .int), (cJ, .long), (cB, .byte)] t ∧ va_D (va_A [(h0, .inr (12, mo v_r v_i v_j)), (v_r 3, .inl (cI, 120000, .inl v_wordAt_v)), (v_r 4, .inl (cI, 120000, .inl v_wordSize_v)), (v_r 1, .inl (cB, 300000, .inl v_letter_v)), (v_r 29, .inl (cI, 40, .inl v_procName_v))] sz) [(h0, .inr (12, mo v_r v_i v_j)), (v_r 3, .inl (cI, 120000, .inl v_wordAt_v)), (v_r 4, .inl (cI, 120000, .inl v_wordSize_v)), (v_r 1, .inl (cB, 300000, .inl v_letter_v)), (v_r 29, .inl (cI, 40, .inl v_procName_v))]) (va_A [(h0, .inr (12, mo v_r v_i v_j)), (v_r 3, .inl (cI, 120000, .inl v_wordAt_v)), (v_r 4, .inl (cI, 120000, .inl v_wordSize_v)), (v_r 1, .inl (cB, 300000, .inl v_letter_v)), (v_r 29, .inl (cI, 40, .inl v_procName_v))] sz)) 0 0 (va_A [(h0, .inr (12, mo v_r v_i v_j)), (v_r 3, .inl (cI, 120000, .inl v_wordAt_v)), (v_r 4, .inl (cI, 120000, .inl v_wordSize_v)), (v_r 1, .inl (cB, 300000, .inl v_letter_v)), (v_r 29, .inl (cI, 40, .inl v_procName_v))] sz) := by
  refine Met.ofW (cc := b_Model_procedureOf) (maxL := 3) (ret := (some .int)) (by decide) rfl ?_
  intro p e s m args below meth c s₁ B hml hv
  obtain ⟨rfl, hsz, hP, hK, hD0⟩ := hv
  have hx := B.exec
  have hb := B.bytes
  have hr := B.returns
  have hts := atoms_spec (ws := w_Model_procedureOf) B.pre
  have htt : ∀ w ∈ tw_T, w.before _ s = true := fun w h => hts w (List.mem_cons_of_mem _ h)
  have hown : s.vm.findClass R_Model = some m.cls := findClass_of_methodNamed B.named
  have hlocks := B.notSynchronized
  subst hsz
  have hD := hD0.self (sz := s.heap.size)
  generalize hAe : va_A [(h0, .inr (12, mo v_r v_i v_j)), (v_r 3, .inl (cI, 120000, .inl v_wordAt_v)), (v_r 4, .inl (cI, 120000, .inl v_wordSize_v)), (v_r 1, .inl (cB, 300000, .inl v_letter_v)), (v_r 29, .inl (cI, 40, .inl v_procName_v))] s.heap.size = A at hD ⊢
  have hA : ∀ q : Nat, s.heap.size ≤ q → A q := fun q h => by rw [← hAe]; exact Or.inr h
  have hS : va_S A s.heap s.heap [] := va_S.rf
  have hP : va_P (dC, dI) classes [(h0, .inr (12, mo v_r v_i v_j)), (v_r 3, .inl (cI, 120000, .inl v_wordAt_v)), (v_r 4, .inl (cI, 120000, .inl v_wordSize_v)), (v_r 1, .inl (cB, 300000, .inl v_letter_v)), (v_r 29, .inl (cI, 40, .inl v_procName_v))] s.heap := hP
  have hl := lv_entry ([.ref h0, .int a]) (n := 3) (Nat.le_of_ble_eq_true rfl)
  rw [lg_entry_eq]
  generalize (lg_sl ([.ref h0, .int a]) ++ List.replicate (3 - (lg_sl ([.ref h0, .int a])).length) Slot.unset).toArray = ls at hl ⊢
  have hl : lv_has ls 3 [(0, .ref h0), (1, .int a)] := hl
  refine lv_iconst (v := 0) hx hb d_Model_procedureOf_0 (by decide) ?_
  refine lv_istore_n (lv' := [(2, .int 0), (0, .ref h0), (1, .int a)]) hx hb d_Model_procedureOf_1 rfl hl (by decide) rfl (fun ls hl => ?_)
  exact lp_Model_procedureOf_2 l dC dI h0 v_r v_i v_j v_wordAt_v v_wordSize_v v_letter_v v_procName_v cI cJ cB a hwa hpn hlw hpc hx hb hml hown hts hK hA hr hlocks (m_Model_procedureOf_r v_i v_wordAt_v v_wordSize_v v_letter_v v_procName_v a) (((v_i 33).toInt - 0).toNat + 1) 0 (Or.inr rfl) (by exact Nat.lt_succ_self _) (by unfold m_Model_procedureOf_r; rfl) _ _ _ (hP.sub [0, 1, 2, 3, 4] rfl) (hD.sub [0, 1, 2, 3, 4] (by decide) rfl) hS (lv_sub hl [0, 1, 2] rfl)
