theorem d_Model_sameLetters_0 : decode b_Model_sameLetters 0 = .ok (.iload_n 2, 1) := by decide +kernel
theorem d_Model_sameLetters_1 : decode b_Model_sameLetters 1 = .ok (.iload 4, 2) := by decide +kernel
theorem d_Model_sameLetters_3 : decode b_Model_sameLetters 3 = .ok (.if_icmp .eq 5, 3) := by decide +kernel
theorem d_Model_sameLetters_6 : decode b_Model_sameLetters 6 = .ok (.iconst 0, 1) := by decide +kernel
theorem d_Model_sameLetters_7 : decode b_Model_sameLetters 7 = .ok (.ireturn, 1) := by decide +kernel
theorem d_Model_sameLetters_8 : decode b_Model_sameLetters 8 = .ok (.iconst 0, 1) := by decide +kernel
theorem d_Model_sameLetters_9 : decode b_Model_sameLetters 9 = .ok (.istore 5, 2) := by decide +kernel
theorem d_Model_sameLetters_11 : decode b_Model_sameLetters 11 = .ok (.iload 5, 2) := by decide +kernel
theorem d_Model_sameLetters_13 : decode b_Model_sameLetters 13 = .ok (.iload_n 2, 1) := by decide +kernel
theorem d_Model_sameLetters_14 : decode b_Model_sameLetters 14 = .ok (.if_icmp .ge 32, 3) := by decide +kernel
theorem d_Model_sameLetters_17 : decode b_Model_sameLetters 17 = .ok (.aload_n 0, 1) := by decide +kernel
theorem d_Model_sameLetters_18 : decode b_Model_sameLetters 18 = .ok (.getfield 67, 3) := by decide +kernel
theorem d_Model_sameLetters_21 : decode b_Model_sameLetters 21 = .ok (.iload_n 1, 1) := by decide +kernel
theorem d_Model_sameLetters_22 : decode b_Model_sameLetters 22 = .ok (.iload 5, 2) := by decide +kernel
theorem d_Model_sameLetters_24 : decode b_Model_sameLetters 24 = .ok (.iadd, 1) := by decide +kernel
theorem d_Model_sameLetters_25 : decode b_Model_sameLetters 25 = .ok (.baload, 1) := by decide +kernel
theorem d_Model_sameLetters_26 : decode b_Model_sameLetters 26 = .ok (.aload_n 0, 1) := by decide +kernel
theorem d_Model_sameLetters_27 : decode b_Model_sameLetters 27 = .ok (.getfield 67, 3) := by decide +kernel
theorem d_Model_sameLetters_30 : decode b_Model_sameLetters 30 = .ok (.iload_n 3, 1) := by decide +kernel
theorem d_Model_sameLetters_31 : decode b_Model_sameLetters 31 = .ok (.iload 5, 2) := by decide +kernel
theorem d_Model_sameLetters_33 : decode b_Model_sameLetters 33 = .ok (.iadd, 1) := by decide +kernel
theorem d_Model_sameLetters_34 : decode b_Model_sameLetters 34 = .ok (.baload, 1) := by decide +kernel
theorem d_Model_sameLetters_35 : decode b_Model_sameLetters 35 = .ok (.if_icmp .eq 5, 3) := by decide +kernel
theorem d_Model_sameLetters_38 : decode b_Model_sameLetters 38 = .ok (.iconst 0, 1) := by decide +kernel
theorem d_Model_sameLetters_39 : decode b_Model_sameLetters 39 = .ok (.ireturn, 1) := by decide +kernel
theorem d_Model_sameLetters_40 : decode b_Model_sameLetters 40 = .ok (.iinc 5 1, 3) := by decide +kernel
theorem d_Model_sameLetters_43 : decode b_Model_sameLetters 43 = .ok (.goto (-32), 3) := by decide +kernel
theorem d_Model_sameLetters_46 : decode b_Model_sameLetters 46 = .ok (.iconst 1, 1) := by decide +kernel
theorem d_Model_sameLetters_47 : decode b_Model_sameLetters 47 = .ok (.ireturn, 1) := by decide +kernel
theorem lk_Model_67 : Cond.fieldLink "TurtleWorldModel" 67 "TurtleWorldModel" "letter" "[B" ∈ tw_T := tw_i8 79 (by decide +kernel) (by decide +kernel)
theorem sl_in {a k : Int32} {i : Nat} (h0 : 0 ≤ a.toInt) (h1 : a.toInt + k.toInt ≤ 300000) (hi : (i : Int) ≤ k.toInt ∨ i = 0) (h : ¬ k ≤ nI i) : (i : Int) < k.toInt ∧ vp_in (a + nI i) 300000 := by
  have q := Int32.toInt_lt k
  have e : (nI i).toInt = i := nI_toInt (by rcases hi with hi | hi <;> omega)
  rw [Int32.le_iff_toInt_le, e] at h
  have e2 : (a + nI i).toInt = a.toInt + i := by rw [i32_add (by rw [e]; omega) (by rw [e]; omega), e]
  rw [vp_in_iff, e2]; omega

def m_Model_sameLetters_L11_r (v_letter_v : Nat → Int32) (a : Int32) (k : Int32) (b : Int32) (d : Int32) : Nat → Nat → Int32
  | 0, _ => 0
  | n + 1, i => if k ≤ ((nI i)) then 1 else if ((v_letter_v (a + (nI i)).toNatClampNeg)) = ((v_letter_v (b + (nI i)).toNatClampNeg)) then m_Model_sameLetters_L11_r v_letter_v a k b d n (i + 1) else 0
def m_Model_sameLetters_r (v_letter_v : Nat → Int32) (a : Int32) (k : Int32) (b : Int32) (d : Int32) : Int32 := if k = d then m_Model_sameLetters_L11_r v_letter_v a k b d ((k.toInt - 0).toNat + 1) 0 else 0
set_option maxHeartbeats 4000000 in
set_option maxRecDepth 100000 in
theorem lp_Model_sameLetters_11 (l : Launch) (dC : Nat → ClassId) (dI : Nat → Nat → Nat) (h0 : Nat) (v_r : Nat → Nat) (v_i : Nat → Int32) (v_j : Nat → Int64) (v_letter_v : Nat → Int32) (cI : ClassId) (cJ : ClassId) (cB : ClassId) (a : Int32) (k : Int32) (b : Int32) (d : Int32) (ha0 : 0 ≤ a.toInt) (hb0 : 0 ≤ b.toInt) (han : a.toInt + k.toInt ≤ 300000) (hbn : b.toInt + d.toInt ≤ 300000) {p : Program} {e : Env} {s : State} {m : MethodId} {below : List Frame} {meth : Method} {c : Code} {A : Nat → Prop} (hx : p.tables.exec = Jvm.exec) (hb : c.code = b_Model_sameLetters) (hml : c.maxLocals = 6) (hown : s.vm.findClass R_Model = some m.cls) (hts : ∀ w ∈ w_Model_sameLetters, w.before ([.ref h0, .int a, .int k, .int b, .int d] : List Value).toArray s = true) (hK : va_K (dC, dI) classes [(cI, .int), (cJ, .long), (cB, .byte)] s) (hA : ∀ q : Nat, s.heap.size ≤ q → A q) (hr : meth.sig.returnType = (some .boolean)) (hlocks : meth.locks = false) (RV0 : Int32) : ∀ (n : Nat) (i : Nat), k = d → (i : Int) ≤ k.toInt ∨ i = 0 → (k.toInt - i).toNat < n → m_Model_sameLetters_L11_r v_letter_v a k b d n i = RV0 → ∀ (H : Heap) (locs : List Loc) (ls : Array Slot), va_P (dC, dI) classes [(h0, .inr (12, mo v_r v_i v_j)), (v_r 1, .inl (cB, 300000, .inl v_letter_v))] H → va_D A [(h0, .inr (12, mo v_r v_i v_j)), (v_r 1, .inl (cB, 300000, .inl v_letter_v))] → va_S A s.heap H locs → lv_has ls 6 [(5, .int (nI i)), (0, .ref h0), (1, .int a), (2, .int k), (3, .int b)] → W p l e ({ frames := 0, cells := 0, slots := 0, locals := 0 } : Room) s m ([.ref h0, .int a, .int k, .int b, .int d] : List Value).toArray below meth c H locs 0 0 (MQ below (va_Qi (fun (r : Int32) (_ : Unit) => r = RV0) (fun (_ : Unit) t => va_P (dC, dI) classes [(h0, .inr (12, mo v_r v_i v_j)), (v_r 1, .inl (cB, 300000, .inl v_letter_v))] t.heap ∧ va_K (dC, dI) classes [(cI, .int), (cJ, .long), (cB, .byte)] t ∧ va_D A [(h0, .inr (12, mo v_r v_i v_j)), (v_r 1, .inl (cB, 300000, .inl v_letter_v))]) A) ([.ref h0, .int a, .int k, .int b, .int d] : List Value).toArray s 0 0 A) (F0 m 11 ls []) := by
  have htt : ∀ w ∈ tw_T, w.before _ s = true := fun w h => hts w (List.mem_cons_of_mem _ h)
  intro n
  induction n with
  | zero =>
    intro i hkd hi hmu
    exact absurd hmu (Nat.not_lt_zero _)
  | succ n ih =>
    intro i hkd hi hmu hR0 H locs ls hP hD hS hl
    refine lv_iload hx hb d_Model_sameLetters_11 (lv_at hl 0 rfl) ?_
    refine lv_iload_n hx hb d_Model_sameLetters_13 rfl (lv_at hl 3 rfl) ?_
    refine lv_icmp_ge (tgt := 46) hx hb d_Model_sameLetters_14 (by decide) (fun c_1 => ?_) (fun c_1 => ?_)
    · refine lv_iconst (v := 1) hx hb d_Model_sameLetters_46 (by decide) ?_
      have hP9 := hP.sub (ws' := [(h0, .inr (12, mo v_r v_i v_j)), (v_r 1, .inl (cB, 300000, .inl v_letter_v))]) [0, 1] rfl
      have hD9 := hD.sub (ws' := [(h0, .inr (12, mo v_r v_i v_j)), (v_r 1, .inl (cB, 300000, .inl v_letter_v))]) [0, 1] (by decide) rfl
      exact W.zret (v := 1) hx hb hr (by decide) (fun t9 ht hW => ⟨⟨1, (), rfl, by rw [← hR0]; simp only [m_Model_sameLetters_L11_r, if_pos c_1], by rw [ht]; exact hP9, va_K.moved hW.alike hK, hD9⟩, hS.F ht⟩) hS.2.2 d_Model_sameLetters_47
    · refine lv_aload_n hx hb d_Model_sameLetters_17 rfl (lv_at hl 1 rfl) ?_
      refine va_get (D := (dC, dI)) (ci := 12) (v := .ref (v_r 1)) (C := R_Model) (T := F_Model) (N := 127) hx hb htt iw_Model hown hK hP 0 rfl rfl 1 (by decide) (htt _ lk_Model_67) (fun _ h9 => h9) rfl d_Model_sameLetters_18 ?_
      refine lv_iload_n hx hb d_Model_sameLetters_21 rfl (lv_at hl 2 rfl) ?_
      refine lv_iload hx hb d_Model_sameLetters_22 (lv_at hl 0 rfl) ?_
      refine lv_iadd hx hb d_Model_sameLetters_24 ?_
      have h_2 : vp_in (a + (nI i)) 300000 := (sl_in ha0 han hi c_1).2
      refine va_bald hx hb hK hP 1 2 rfl rfl h_2 d_Model_sameLetters_25 ?_
      refine lv_aload_n hx hb d_Model_sameLetters_26 rfl (lv_at hl 1 rfl) ?_
      refine va_get (D := (dC, dI)) (ci := 12) (v := .ref (v_r 1)) (C := R_Model) (T := F_Model) (N := 127) hx hb htt iw_Model hown hK hP 0 rfl rfl 1 (by decide) (htt _ lk_Model_67) (fun _ h9 => h9) rfl d_Model_sameLetters_27 ?_
      refine lv_iload_n hx hb d_Model_sameLetters_30 rfl (lv_at hl 4 rfl) ?_
      refine lv_iload hx hb d_Model_sameLetters_31 (lv_at hl 0 rfl) ?_
      refine lv_iadd hx hb d_Model_sameLetters_33 ?_
      have h_3 : vp_in (b + (nI i)) 300000 := (sl_in hb0 (by rw [hkd]; exact hbn) hi c_1).2
      refine va_bald hx hb hK hP 1 2 rfl rfl h_3 d_Model_sameLetters_34 ?_
      refine lv_icmp_eq (tgt := 40) hx hb d_Model_sameLetters_35 (by decide) (fun c_4 => ?_) (fun c_4 => ?_)
      · refine lv_iinc (v := nI (i + 1)) (lv' := [(5, .int (nI (i + 1))), (0, .ref h0), (1, .int a), (2, .int k), (3, .int b)]) hx hb d_Model_sameLetters_40 hl (k := 0) rfl (nI_1 _) (by decide) rfl (fun ls hl => ?_)
        refine lv_goto (tgt := 11) hx hb d_Model_sameLetters_43 (by decide) ?_
        exact ih (i + 1) (hkd) (by have h8 := (sl_in ha0 han hi c_1).1; omega) (by have h8 := (sl_in ha0 han hi c_1).1; omega) (by rw [← hR0]; simp only [m_Model_sameLetters_L11_r, if_neg c_1, if_pos c_4]) _ _ _ (hP.sub [0, 1] rfl) (hD.sub [0, 1] (by decide) rfl) hS (lv_sub hl [0, 1, 2, 3, 4] rfl)
      · refine lv_iconst (v := 0) hx hb d_Model_sameLetters_38 (by decide) ?_
        have hP9 := hP.sub (ws' := [(h0, .inr (12, mo v_r v_i v_j)), (v_r 1, .inl (cB, 300000, .inl v_letter_v))]) [0, 1] rfl
        have hD9 := hD.sub (ws' := [(h0, .inr (12, mo v_r v_i v_j)), (v_r 1, .inl (cB, 300000, .inl v_letter_v))]) [0, 1] (by decide) rfl
        exact W.zret (v := 0) hx hb hr (by decide) (fun t9 ht hW => ⟨⟨0, (), rfl, by rw [← hR0]; simp only [m_Model_sameLetters_L11_r, if_neg c_1, if_neg c_4], by rw [ht]; exact hP9, va_K.moved hW.alike hK, hD9⟩, hS.F ht⟩) hS.2.2 d_Model_sameLetters_39

set_option maxHeartbeats 4000000 in
set_option maxRecDepth 100000 in
/-- whether letters are the same -/
theorem c_Model_sameLetters (l : Launch) (dC : Nat → ClassId) (dI : Nat → Nat → Nat) (sz : Nat) (h0 : Nat) (v_r : Nat → Nat) (v_i : Nat → Int32) (v_j : Nat → Int64) (v_letter_v : Nat → Int32) (cI : ClassId) (cJ : ClassId) (cB : ClassId) (a : Int32) (k : Int32) (b : Int32) (d : Int32) (ha0 : 0 ≤ a.toInt) (hb0 : 0 ≤ b.toInt) (han : a.toInt + k.toInt ≤ 300000) (hbn : b.toInt + d.toInt ≤ 300000) : Met l y_Model_sameLetters w_Model_sameLetters ({ frames := 0, cells := 0, slots := 0, locals := 0 }) (va_Pc [.ref h0, .int a, .int k, .int b, .int d] (fun U => U.heap.size = sz ∧ va_P (dC, dI) classes [(h0, .inr (12, mo v_r v_i v_j)), (v_r 1, .inl (cB, 300000, .inl v_letter_v))] U.heap ∧ va_K (dC, dI) classes [(cI, .int), (cJ, .long), (cB, .byte)] U ∧ va_D (fun _ => True) [(h0, .inr (12, mo v_r v_i v_j)), (v_r 1, .inl (cB, 300000, .inl v_letter_v))])) (va_Qi (fun (r : Int32) (_ : Unit) => r = m_Model_sameLetters_r v_letter_v a k b d) (fun (_ : Unit) t => va_P (dC, dI) classes [(h0, .inr (12, mo v_r v_i v_j)), (v_r 1, .inl (cB, 300000, .inl v_letter_v))] t.heap ∧ va_K (dC, dI) classes [(cI, .int), (cJ, .long), (cB, .byte)] t ∧ va_D (va_A [(h0, .inr (12, mo v_r v_i v_j)), (v_r 1, .inl (cB, 300000, .inl v_letter_v))] sz) [(h0, .inr (12, mo v_r v_i v_j)), (v_r 1, .inl (cB, 300000, .inl v_letter_v))]) (va_A [(h0, .inr (12, mo v_r v_i v_j)), (v_r 1, .inl (cB, 300000, .inl v_letter_v))] sz)) 0 0 (va_A [(h0, .inr (12, mo v_r v_i v_j)), (v_r 1, .inl (cB, 300000, .inl v_letter_v))] sz) := by
  refine Met.ofW (cc := b_Model_sameLetters) (maxL := 6) (ret := (some .boolean)) (by decide) rfl ?_
  intro p e s m args below meth c s₁ B hml hv
  obtain ⟨rfl, hsz, hP, hK, hD0⟩ := hv
  have hx := B.exec
  have hb := B.bytes
  have hr := B.returns
  have hts := atoms_spec (ws := w_Model_sameLetters) B.pre
  have htt : ∀ w ∈ tw_T, w.before _ s = true := fun w h => hts w (List.mem_cons_of_mem _ h)
  have hown : s.vm.findClass R_Model = some m.cls := findClass_of_methodNamed B.named
  have hlocks := B.notSynchronized
  subst hsz
  have hD := hD0.self (sz := s.heap.size)
  generalize hAe : va_A [(h0, .inr (12, mo v_r v_i v_j)), (v_r 1, .inl (cB, 300000, .inl v_letter_v))] s.heap.size = A at hD ⊢
  have hA : ∀ q : Nat, s.heap.size ≤ q → A q := fun q h => by rw [← hAe]; exact Or.inr h
  have hS : va_S A s.heap s.heap [] := va_S.rf
  have hP : va_P (dC, dI) classes [(h0, .inr (12, mo v_r v_i v_j)), (v_r 1, .inl (cB, 300000, .inl v_letter_v))] s.heap := hP
  have hl := lv_entry ([.ref h0, .int a, .int k, .int b, .int d]) (n := 6) (Nat.le_of_ble_eq_true rfl)
  rw [lg_entry_eq]
  generalize (lg_sl ([.ref h0, .int a, .int k, .int b, .int d]) ++ List.replicate (6 - (lg_sl ([.ref h0, .int a, .int k, .int b, .int d])).length) Slot.unset).toArray = ls at hl ⊢
  have hl : lv_has ls 6 [(0, .ref h0), (1, .int a), (2, .int k), (3, .int b), (4, .int d)] := hl
  refine lv_iload_n hx hb d_Model_sameLetters_0 rfl (lv_at hl 2 rfl) ?_
  refine lv_iload hx hb d_Model_sameLetters_1 (lv_at hl 4 rfl) ?_
  refine lv_icmp_eq (tgt := 8) hx hb d_Model_sameLetters_3 (by decide) (fun c_1 => ?_) (fun c_1 => ?_)
  · refine lv_iconst (v := 0) hx hb d_Model_sameLetters_8 (by decide) ?_
    refine lv_istore (lv' := [(5, .int 0), (0, .ref h0), (1, .int a), (2, .int k), (3, .int b), (4, .int d)]) hx hb d_Model_sameLetters_9 hl (by decide) rfl (fun ls hl => ?_)
    exact lp_Model_sameLetters_11 l dC dI h0 v_r v_i v_j v_letter_v cI cJ cB a k b d ha0 hb0 han hbn hx hb hml hown hts hK hA hr hlocks (m_Model_sameLetters_r v_letter_v a k b d) ((k.toInt - 0).toNat + 1) 0 (c_1) (Or.inr rfl) (by exact Nat.lt_succ_self _) (by unfold m_Model_sameLetters_r; simp only [if_pos c_1]) _ _ _ (hP.sub [0, 1] rfl) (hD.sub [0, 1] (by decide) rfl) hS (lv_sub hl [0, 1, 2, 3, 4] rfl)
  · refine lv_iconst (v := 0) hx hb d_Model_sameLetters_6 (by decide) ?_
    have hP9 := hP.sub (ws' := [(h0, .inr (12, mo v_r v_i v_j)), (v_r 1, .inl (cB, 300000, .inl v_letter_v))]) [0, 1] rfl
    have hD9 := hD.sub (ws' := [(h0, .inr (12, mo v_r v_i v_j)), (v_r 1, .inl (cB, 300000, .inl v_letter_v))]) [0, 1] (by decide) rfl
    exact W.zret (v := 0) hx hb hr (by decide) (fun t9 ht hW => ⟨⟨0, (), rfl, by unfold m_Model_sameLetters_r; simp only [if_neg c_1], by rw [ht]; exact hP9, va_K.moved hW.alike hK, hD9⟩, hS.F ht⟩) hS.2.2 d_Model_sameLetters_7
