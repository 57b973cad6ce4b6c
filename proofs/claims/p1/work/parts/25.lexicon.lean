theorem d_Lexicon_hashOf_0 : decode b_Lexicon_hashOf 0 = .ok (.iconst 0, 1) := by decide +kernel
theorem d_Lexicon_hashOf_1 : decode b_Lexicon_hashOf 1 = .ok (.istore_n 2, 1) := by decide +kernel
theorem d_Lexicon_hashOf_2 : decode b_Lexicon_hashOf 2 = .ok (.iload_n 1, 1) := by decide +kernel
theorem d_Lexicon_hashOf_3 : decode b_Lexicon_hashOf 3 = .ok (.iconst 0, 1) := by decide +kernel
theorem d_Lexicon_hashOf_4 : decode b_Lexicon_hashOf 4 = .ok (.invokestatic 77, 3) := by decide +kernel
theorem d_Lexicon_hashOf_7 : decode b_Lexicon_hashOf 7 = .ok (.istore_n 3, 1) := by decide +kernel
theorem d_Lexicon_hashOf_8 : decode b_Lexicon_hashOf 8 = .ok (.iload_n 3, 1) := by decide +kernel
theorem d_Lexicon_hashOf_9 : decode b_Lexicon_hashOf 9 = .ok (.aload_n 0, 1) := by decide +kernel
theorem d_Lexicon_hashOf_10 : decode b_Lexicon_hashOf 10 = .ok (.arraylength, 1) := by decide +kernel
theorem d_Lexicon_hashOf_11 : decode b_Lexicon_hashOf 11 = .ok (.if_icmp .ge 24, 3) := by decide +kernel
theorem d_Lexicon_hashOf_14 : decode b_Lexicon_hashOf 14 = .ok (.aload_n 0, 1) := by decide +kernel
theorem d_Lexicon_hashOf_15 : decode b_Lexicon_hashOf 15 = .ok (.iload_n 3, 1) := by decide +kernel
theorem d_Lexicon_hashOf_16 : decode b_Lexicon_hashOf 16 = .ok (.iaload, 1) := by decide +kernel
theorem d_Lexicon_hashOf_17 : decode b_Lexicon_hashOf 17 = .ok (.ifCond .eq 18, 3) := by decide +kernel
theorem d_Lexicon_hashOf_20 : decode b_Lexicon_hashOf 20 = .ok (.bipush 31, 2) := by decide +kernel
theorem d_Lexicon_hashOf_22 : decode b_Lexicon_hashOf 22 = .ok (.iload_n 2, 1) := by decide +kernel
theorem d_Lexicon_hashOf_23 : decode b_Lexicon_hashOf 23 = .ok (.imul, 1) := by decide +kernel
theorem d_Lexicon_hashOf_24 : decode b_Lexicon_hashOf 24 = .ok (.aload_n 0, 1) := by decide +kernel
theorem d_Lexicon_hashOf_25 : decode b_Lexicon_hashOf 25 = .ok (.iload_n 3, 1) := by decide +kernel
theorem d_Lexicon_hashOf_26 : decode b_Lexicon_hashOf 26 = .ok (.iaload, 1) := by decide +kernel
theorem d_Lexicon_hashOf_27 : decode b_Lexicon_hashOf 27 = .ok (.iadd, 1) := by decide +kernel
theorem d_Lexicon_hashOf_28 : decode b_Lexicon_hashOf 28 = .ok (.istore_n 2, 1) := by decide +kernel
theorem d_Lexicon_hashOf_29 : decode b_Lexicon_hashOf 29 = .ok (.iinc 3 1, 3) := by decide +kernel
theorem d_Lexicon_hashOf_32 : decode b_Lexicon_hashOf 32 = .ok (.goto (-24), 3) := by decide +kernel
theorem d_Lexicon_hashOf_35 : decode b_Lexicon_hashOf 35 = .ok (.iload_n 2, 1) := by decide +kernel
theorem d_Lexicon_hashOf_36 : decode b_Lexicon_hashOf 36 = .ok (.ireturn, 1) := by decide +kernel
theorem lk_Lexicon_77 : Cond.methodLink "TurtleWorld$Lexicon" 77 ⟨"java/lang/Math", "max", "(II)I"⟩ ∈ tw_T := tw_i1 110 (by decide +kernel) (by decide +kernel)
theorem d_Lexicon_isAt_0 : decode b_Lexicon_isAt 0 = .ok (.aload_n 0, 1) := by decide +kernel
theorem d_Lexicon_isAt_1 : decode b_Lexicon_isAt 1 = .ok (.getfield 15, 3) := by decide +kernel
theorem d_Lexicon_isAt_4 : decode b_Lexicon_isAt 4 = .ok (.iload_n 1, 1) := by decide +kernel
theorem d_Lexicon_isAt_5 : decode b_Lexicon_isAt 5 = .ok (.iaload, 1) := by decide +kernel
theorem d_Lexicon_isAt_6 : decode b_Lexicon_isAt 6 = .ok (.istore 4, 2) := by decide +kernel
theorem d_Lexicon_isAt_8 : decode b_Lexicon_isAt 8 = .ok (.iconst 0, 1) := by decide +kernel
theorem d_Lexicon_isAt_9 : decode b_Lexicon_isAt 9 = .ok (.istore 5, 2) := by decide +kernel
theorem d_Lexicon_isAt_11 : decode b_Lexicon_isAt 11 = .ok (.iload 4, 2) := by decide +kernel
theorem d_Lexicon_isAt_13 : decode b_Lexicon_isAt 13 = .ok (.iload 5, 2) := by decide +kernel
theorem d_Lexicon_isAt_15 : decode b_Lexicon_isAt 15 = .ok (.iadd, 1) := by decide +kernel
theorem d_Lexicon_isAt_16 : decode b_Lexicon_isAt 16 = .ok (.sipush 600, 3) := by decide +kernel
theorem d_Lexicon_isAt_19 : decode b_Lexicon_isAt 19 = .ok (.if_icmp .ge 54, 3) := by decide +kernel
theorem d_Lexicon_isAt_22 : decode b_Lexicon_isAt 22 = .ok (.iload_n 3, 1) := by decide +kernel
theorem d_Lexicon_isAt_23 : decode b_Lexicon_isAt 23 = .ok (.iload 5, 2) := by decide +kernel
theorem d_Lexicon_isAt_25 : decode b_Lexicon_isAt 25 = .ok (.iadd, 1) := by decide +kernel
theorem d_Lexicon_isAt_26 : decode b_Lexicon_isAt 26 = .ok (.aload_n 2, 1) := by decide +kernel
theorem d_Lexicon_isAt_27 : decode b_Lexicon_isAt 27 = .ok (.arraylength, 1) := by decide +kernel
theorem d_Lexicon_isAt_28 : decode b_Lexicon_isAt 28 = .ok (.if_icmp .ge 45, 3) := by decide +kernel
theorem d_Lexicon_isAt_31 : decode b_Lexicon_isAt 31 = .ok (.aload_n 0, 1) := by decide +kernel
theorem d_Lexicon_isAt_32 : decode b_Lexicon_isAt 32 = .ok (.getfield 11, 3) := by decide +kernel
theorem d_Lexicon_isAt_35 : decode b_Lexicon_isAt 35 = .ok (.iload 4, 2) := by decide +kernel
theorem d_Lexicon_isAt_37 : decode b_Lexicon_isAt 37 = .ok (.iload 5, 2) := by decide +kernel
theorem d_Lexicon_isAt_39 : decode b_Lexicon_isAt 39 = .ok (.iadd, 1) := by decide +kernel
theorem d_Lexicon_isAt_40 : decode b_Lexicon_isAt 40 = .ok (.iaload, 1) := by decide +kernel
theorem d_Lexicon_isAt_41 : decode b_Lexicon_isAt 41 = .ok (.aload_n 2, 1) := by decide +kernel
theorem d_Lexicon_isAt_42 : decode b_Lexicon_isAt 42 = .ok (.iload_n 3, 1) := by decide +kernel
theorem d_Lexicon_isAt_43 : decode b_Lexicon_isAt 43 = .ok (.iload 5, 2) := by decide +kernel
theorem d_Lexicon_isAt_45 : decode b_Lexicon_isAt 45 = .ok (.iadd, 1) := by decide +kernel
theorem d_Lexicon_isAt_46 : decode b_Lexicon_isAt 46 = .ok (.iaload, 1) := by decide +kernel
theorem d_Lexicon_isAt_47 : decode b_Lexicon_isAt 47 = .ok (.if_icmp .eq 5, 3) := by decide +kernel
theorem d_Lexicon_isAt_50 : decode b_Lexicon_isAt 50 = .ok (.iconst 0, 1) := by decide +kernel
theorem d_Lexicon_isAt_51 : decode b_Lexicon_isAt 51 = .ok (.ireturn, 1) := by decide +kernel
theorem d_Lexicon_isAt_52 : decode b_Lexicon_isAt 52 = .ok (.aload_n 0, 1) := by decide +kernel
theorem d_Lexicon_isAt_53 : decode b_Lexicon_isAt 53 = .ok (.getfield 11, 3) := by decide +kernel
theorem d_Lexicon_isAt_56 : decode b_Lexicon_isAt 56 = .ok (.iload 4, 2) := by decide +kernel
theorem d_Lexicon_isAt_58 : decode b_Lexicon_isAt 58 = .ok (.iload 5, 2) := by decide +kernel
theorem d_Lexicon_isAt_60 : decode b_Lexicon_isAt 60 = .ok (.iadd, 1) := by decide +kernel
theorem d_Lexicon_isAt_61 : decode b_Lexicon_isAt 61 = .ok (.iaload, 1) := by decide +kernel
theorem d_Lexicon_isAt_62 : decode b_Lexicon_isAt 62 = .ok (.ifCond .ne 5, 3) := by decide +kernel
theorem d_Lexicon_isAt_65 : decode b_Lexicon_isAt 65 = .ok (.iconst 1, 1) := by decide +kernel
theorem d_Lexicon_isAt_66 : decode b_Lexicon_isAt 66 = .ok (.ireturn, 1) := by decide +kernel
theorem d_Lexicon_isAt_67 : decode b_Lexicon_isAt 67 = .ok (.iinc 5 1, 3) := by decide +kernel
theorem d_Lexicon_isAt_70 : decode b_Lexicon_isAt 70 = .ok (.goto (-59), 3) := by decide +kernel
theorem d_Lexicon_isAt_73 : decode b_Lexicon_isAt 73 = .ok (.iconst 0, 1) := by decide +kernel
theorem d_Lexicon_isAt_74 : decode b_Lexicon_isAt 74 = .ok (.ireturn, 1) := by decide +kernel
theorem lk_Lexicon_15 : Cond.fieldLink "TurtleWorld$Lexicon" 15 "TurtleWorld$Lexicon" "starts" "[I" ∈ tw_T := tw_i1 123 (by decide +kernel) (by decide +kernel)
theorem lk_Lexicon_11 : Cond.fieldLink "TurtleWorld$Lexicon" 11 "TurtleWorld$Lexicon" "letters" "[I" ∈ tw_T := tw_i1 122 (by decide +kernel) (by decide +kernel)
theorem d_Lexicon_arity_0 : decode b_Lexicon_arity 0 = .ok (.iload_n 1, 1) := by decide +kernel
theorem d_Lexicon_arity_1 : decode b_Lexicon_arity 1 = .ok (.ifCond .lt 18, 3) := by decide +kernel
theorem d_Lexicon_arity_4 : decode b_Lexicon_arity 4 = .ok (.iload_n 1, 1) := by decide +kernel
theorem d_Lexicon_arity_5 : decode b_Lexicon_arity 5 = .ok (.bipush 86, 2) := by decide +kernel
theorem d_Lexicon_arity_7 : decode b_Lexicon_arity 7 = .ok (.if_icmp .ge 12, 3) := by decide +kernel
theorem d_Lexicon_arity_10 : decode b_Lexicon_arity 10 = .ok (.aload_n 0, 1) := by decide +kernel
theorem d_Lexicon_arity_11 : decode b_Lexicon_arity 11 = .ok (.getfield 18, 3) := by decide +kernel
theorem d_Lexicon_arity_14 : decode b_Lexicon_arity 14 = .ok (.iload_n 1, 1) := by decide +kernel
theorem d_Lexicon_arity_15 : decode b_Lexicon_arity 15 = .ok (.iaload, 1) := by decide +kernel
theorem d_Lexicon_arity_16 : decode b_Lexicon_arity 16 = .ok (.goto 4, 3) := by decide +kernel
theorem d_Lexicon_arity_19 : decode b_Lexicon_arity 19 = .ok (.iconst 0, 1) := by decide +kernel
theorem d_Lexicon_arity_20 : decode b_Lexicon_arity 20 = .ok (.ireturn, 1) := by decide +kernel
theorem lk_Lexicon_18 : Cond.fieldLink "TurtleWorld$Lexicon" 18 "TurtleWorld$Lexicon" "arities" "[I" ∈ tw_T := tw_i1 124 (by decide +kernel) (by decide +kernel)
def m_Lexicon_hashOf_L8_r (cl : Nat) (fr : Nat → Int32) (a : Int32) : Nat → Int32 → Int32 → Int32
  | 0, _, _ => 0
  | n + 1, i, hs => if ((nI cl)) ≤ i then hs else if ((fr i.toNatClampNeg)) = ((0 : Int32)) then hs else m_Lexicon_hashOf_L8_r cl fr a n ((i + 1)) (((31 * hs) + (fr i.toNatClampNeg)))
def m_Lexicon_hashOf_r (cl : Nat) (fr : Nat → Int32) (a : Int32) : Int32 := m_Lexicon_hashOf_L8_r cl fr a (((cl : Int) - ((m_Math_max_r a 0)).toInt).toNat + 1) ((m_Math_max_r a 0)) 0
set_option maxHeartbeats 4000000 in
set_option maxRecDepth 100000 in
theorem lp_Lexicon_hashOf_8 (l : Launch) (dC : Nat → ClassId) (dI : Nat → Nat → Nat) (h1 : Nat) (cI : ClassId) (cl : Nat) (fr : Nat → Int32) (a : Int32) (hcl : cl ≤ 340000) {p : Program} {e : Env} {s : State} {m : MethodId} {below : List Frame} {meth : Method} {c : Code} {A : Nat → Prop} (hx : p.tables.exec = Jvm.exec) (hb : c.code = b_Lexicon_hashOf) (hml : c.maxLocals = 4) (hown : s.vm.findClass R_Lexicon = some m.cls) (hts : ∀ w ∈ w_Lexicon_hashOf, w.before ([.ref h1, .int a] : List Value).toArray s = true) (hK : va_K (dC, dI) classes [(cI, .int)] s) (hA : ∀ q : Nat, s.heap.size ≤ q → A q) (hr : meth.sig.returnType = (some .int)) (hlocks : meth.locks = false) (RV0 : Int32) : ∀ (n : Nat) (i : Int32) (hs : Int32), 0 ≤ i.toInt → ((cl : Int) - i.toInt).toNat < n → m_Lexicon_hashOf_L8_r cl fr a n i hs = RV0 → ∀ (H : Heap) (locs : List Loc) (ls : Array Slot), va_P (dC, dI) classes [(h1, .inl (cI, cl, .inl fr))] H → va_D A [(h1, .inl (cI, cl, .inl fr))] → va_S A s.heap H locs → lv_has ls 4 [(3, .int i), (2, .int hs), (0, .ref h1)] → W p l e ({ frames := 1, cells := 0, slots := 0, locals := 21 } : Room) s m ([.ref h1, .int a] : List Value).toArray below meth c H locs 0 0 (MQ below (va_Qi (fun (r : Int32) (_ : Unit) => r = RV0) (fun (_ : Unit) t => va_P (dC, dI) classes [(h1, .inl (cI, cl, .inl fr))] t.heap ∧ va_K (dC, dI) classes [(cI, .int)] t ∧ va_D A [(h1, .inl (cI, cl, .inl fr))]) A) ([.ref h1, .int a] : List Value).toArray s 0 0 A) (F0 m 8 ls []) := by
  have htt : ∀ w ∈ tw_T, w.before _ s = true := fun w h => hts w (List.mem_cons_of_mem _ h)
  intro n
  induction n with
  | zero =>
    intro i hs hi hmu
    exact absurd hmu (Nat.not_lt_zero _)
  | succ n ih =>
    intro i hs hi hmu hR0 H locs ls hP hD hS hl
    refine lv_iload_n hx hb d_Lexicon_hashOf_8 rfl (lv_at hl 0 rfl) ?_
    refine lv_aload_n hx hb d_Lexicon_hashOf_9 rfl (lv_at hl 2 rfl) ?_
    refine va_alen (v := nI cl) hx hb hK hP 0 0 rfl rfl rfl d_Lexicon_hashOf_10 ?_
    refine lv_icmp_ge (tgt := 35) hx hb d_Lexicon_hashOf_11 (by decide) (fun c_1 => ?_) (fun c_1 => ?_)
    · refine lv_iload_n hx hb d_Lexicon_hashOf_35 rfl (lv_at hl 1 rfl) ?_
      have hP9 := hP.sub (ws' := [(h1, .inl (cI, cl, .inl fr))]) [0] rfl
      have hD9 := hD.sub (ws' := [(h1, .inl (cI, cl, .inl fr))]) [0] (by decide) rfl
      exact W.iret (v := hs) hx hb hr (fun t9 ht hW => ⟨⟨hs, (), rfl, by rw [← hR0]; simp only [m_Lexicon_hashOf_L8_r, if_pos c_1], by rw [ht]; exact hP9, va_K.moved hW.alike hK, hD9⟩, hS.F ht⟩) hS.2.2 d_Lexicon_hashOf_36
    · refine lv_aload_n hx hb d_Lexicon_hashOf_14 rfl (lv_at hl 2 rfl) ?_
      refine lv_iload_n hx hb d_Lexicon_hashOf_15 rfl (lv_at hl 0 rfl) ?_
      have h_2 : vp_in i cl := by rw [vp_in_iff]; simp only [Int32.lt_iff_toInt_lt, Int32.le_iff_toInt_le, Int32.reduceToInt, nI_toInt (show cl < 2 ^ 31 by omega)] at c_1 hi ⊢; omega
      refine va_iald hx hb hK hP 0 0 rfl rfl h_2 d_Lexicon_hashOf_16 ?_
      refine lv_if_eq (tgt := 35) hx hb d_Lexicon_hashOf_17 (by decide) (fun c_3 => ?_) (fun c_3 => ?_)
      · refine lv_iload_n hx hb d_Lexicon_hashOf_35 rfl (lv_at hl 1 rfl) ?_
        have hP9 := hP.sub (ws' := [(h1, .inl (cI, cl, .inl fr))]) [0] rfl
        have hD9 := hD.sub (ws' := [(h1, .inl (cI, cl, .inl fr))]) [0] (by decide) rfl
        exact W.iret (v := hs) hx hb hr (fun t9 ht hW => ⟨⟨hs, (), rfl, by rw [← hR0]; simp only [m_Lexicon_hashOf_L8_r, if_neg c_1, if_pos c_3], by rw [ht]; exact hP9, va_K.moved hW.alike hK, hD9⟩, hS.F ht⟩) hS.2.2 d_Lexicon_hashOf_36
      · refine lv_bipush (v := 31) hx hb d_Lexicon_hashOf_20 (by decide) ?_
        refine lv_iload_n hx hb d_Lexicon_hashOf_22 rfl (lv_at hl 1 rfl) ?_
        refine lv_imul hx hb d_Lexicon_hashOf_23 ?_
        refine lv_aload_n hx hb d_Lexicon_hashOf_24 rfl (lv_at hl 2 rfl) ?_
        refine lv_iload_n hx hb d_Lexicon_hashOf_25 rfl (lv_at hl 0 rfl) ?_
        have h_4 : vp_in i cl := by rw [vp_in_iff]; simp only [Int32.lt_iff_toInt_lt, Int32.le_iff_toInt_le, Int32.reduceToInt, nI_toInt (show cl < 2 ^ 31 by omega)] at c_1 c_3 hi ⊢; omega
        refine va_iald hx hb hK hP 0 0 rfl rfl h_4 d_Lexicon_hashOf_26 ?_
        refine lv_iadd hx hb d_Lexicon_hashOf_27 ?_
        refine lv_topi (fun x_5 ex_5 => ?_)
        refine lv_istore_n (lv' := [(2, .int x_5), (3, .int i), (0, .ref h1)]) hx hb d_Lexicon_hashOf_28 rfl hl (by decide) rfl (fun ls hl => ?_)
        obtain ⟨x_6, ex_6⟩ : ∃ y : Int32, y = i + 1 := ⟨_, rfl⟩
        refine lv_iinc (v := x_6) (lv' := [(3, .int x_6), (2, .int x_5), (0, .ref h1)]) hx hb d_Lexicon_hashOf_29 hl (k := 1) rfl (by rw [ex_6]; rfl) (by decide) rfl (fun ls hl => ?_)
        refine lv_goto (tgt := 8) hx hb d_Lexicon_hashOf_32 (by decide) ?_
        exact ih x_6 x_5 (by have h8 := c_1; simp only [Int32.lt_iff_toInt_lt, Int32.le_iff_toInt_le, Int32.reduceToInt, nI_toInt (show cl < 2 ^ 31 by omega)] at h8; rw [ex_6, up_step (by omega)]; omega) (by have h8 := c_1; simp only [Int32.lt_iff_toInt_lt, Int32.le_iff_toInt_le, Int32.reduceToInt, nI_toInt (show cl < 2 ^ 31 by omega)] at h8; rw [ex_6, up_step (by omega)]; omega) (by subst ex_5; subst ex_6; rw [← hR0]; simp only [m_Lexicon_hashOf_L8_r, if_neg c_1, if_neg c_3]) _ _ _ (hP.sub [0] rfl) (hD.sub [0] (by decide) rfl) hS (lv_sub hl [0, 1, 2] rfl)

set_option maxHeartbeats 4000000 in
set_option maxRecDepth 100000 in
/-- a number out of the letters -/
theorem c_Lexicon_hashOf (l : Launch) (dC : Nat → ClassId) (dI : Nat → Nat → Nat) (sz : Nat) (h1 : Nat) (cI : ClassId) (cl : Nat) (fr : Nat → Int32) (a : Int32) (hcl : cl ≤ 340000) : Met l y_Lexicon_hashOf w_Lexicon_hashOf ({ frames := 1, cells := 0, slots := 0, locals := 21 }) (va_Pc [.ref h1, .int a] (fun U => U.heap.size = sz ∧ va_P (dC, dI) classes [(h1, .inl (cI, cl, .inl fr))] U.heap ∧ va_K (dC, dI) classes [(cI, .int)] U ∧ va_D (fun _ => True) [(h1, .inl (cI, cl, .inl fr))])) (va_Qi (fun (r : Int32) (_ : Unit) => r = m_Lexicon_hashOf_r cl fr a) (fun (_ : Unit) t => va_P (dC, dI) classes [(h1, .inl (cI, cl, .inl fr))] t.heap ∧ va_K (dC, dI) classes [(cI, .int)] t ∧ va_D (va_A [(h1, .inl (cI, cl, .inl fr))] sz) [(h1, .inl (cI, cl, .inl fr))]) (va_A [(h1, .inl (cI, cl, .inl fr))] sz)) 0 0 (va_A [(h1, .inl (cI, cl, .inl fr))] sz) := by
  refine Met.ofW (cc := b_Lexicon_hashOf) (maxL := 4) (ret := (some .int)) (by decide) rfl ?_
  intro p e s m args below meth c s₁ B hml hv
  obtain ⟨rfl, hsz, hP, hK, hD0⟩ := hv
  have hx := B.exec
  have hb := B.bytes
  have hr := B.returns
  have hts := atoms_spec (ws := w_Lexicon_hashOf) B.pre
  have htt : ∀ w ∈ tw_T, w.before _ s = true := fun w h => hts w (List.mem_cons_of_mem _ h)
  have hown : s.vm.findClass R_Lexicon = some m.cls := findClass_of_methodNamed B.named
  have hlocks := B.notSynchronized
  subst hsz
  have hD := hD0.self (sz := s.heap.size)
  generalize hAe : va_A [(h1, .inl (cI, cl, .inl fr))] s.heap.size = A at hD ⊢
  have hA : ∀ q : Nat, s.heap.size ≤ q → A q := fun q h => by rw [← hAe]; exact Or.inr h
  have hS : va_S A s.heap s.heap [] := va_S.rf
  have hP : va_P (dC, dI) classes [(h1, .inl (cI, cl, .inl fr))] s.heap := hP
  have hl := lv_entry ([.ref h1, .int a]) (n := 4) (Nat.le_of_ble_eq_true rfl)
  rw [lg_entry_eq]
  generalize (lg_sl ([.ref h1, .int a]) ++ List.replicate (4 - (lg_sl ([.ref h1, .int a])).length) Slot.unset).toArray = ls at hl ⊢
  have hl : lv_has ls 4 [(0, .ref h1), (1, .int a)] := hl
  refine lv_iconst (v := 0) hx hb d_Lexicon_hashOf_0 (by decide) ?_
  refine lv_istore_n (lv' := [(2, .int 0), (0, .ref h1), (1, .int a)]) hx hb d_Lexicon_hashOf_1 rfl hl (by decide) rfl (fun ls hl => ?_)
  refine lv_iload_n hx hb d_Lexicon_hashOf_2 rfl (lv_at hl 2 rfl) ?_
  refine lv_iconst (v := 0) hx hb d_Lexicon_hashOf_3 (by decide) ?_
  have hPc := hP.sub (ws' := []) [] rfl
  have hDc := hD.sub (ws' := []) [] (by decide) rfl
  have hKc := hK.sub (tys' := []) [] rfl
  have hFc := va_free (wc := []) hD hS hA [] rfl
  refine va_calli (va_runS (As := [.int a, .int 0]) (rest := []) ⟨hx, hb, hml, hown, hts⟩ (c_Math_max l dC dI s.heap.size a 0) (va_cwS 2 hts (tw_GS tw_cons cw_Math_max lk_Lexicon_77 st_Math_max ini_Math) rfl rfl rfl (by decide +kernel) ⟨Nat.le_of_ble_eq_true rfl, Nat.le_of_ble_eq_true rfl⟩) ⟨fun a U g mk q => by obtain ⟨q0, q1, qP, qK, qD⟩ := q; exact ⟨q0, q1, qP, va_K.moved (u := U) (U := U.calling g mk a) (Vm.Alike.refl U.vm) qK, qD⟩, fun U hU hW => ⟨rfl, by rw [hU], by rw [hU]; exact hPc, va_K.moved hW.alike hKc, hDc.weaken (fun _ _ _ _ => trivial)⟩⟩ rfl rfl hl.1 rfl (lv_room (Nat.le_of_ble_eq_true rfl)) d_Lexicon_hashOf_4 ⟨Nat.le_of_ble_eq_true rfl, Nat.le_of_ble_eq_true rfl⟩) hS (fun q _ h => hFc q h) hFc (fun r9 u9 t9 H1 locs ht hvm e9 hB hz1 hk1 hS => ?_)
  obtain ⟨hP1, hK1, hD1⟩ := hB
  rw [ht] at hP1
  obtain ⟨hP, hD⟩ := va_join (wr := [(h1, .inl (cI, cl, .inl fr))]) (w1 := []) hP hD [] [0] rfl rfl (by decide) (by decide) hk1 hFc hP1 hD1
  subst e9
  clear hP1 hD1 hK1 hvm hz1 hk1 hFc hKc hDc hPc
  subst ht
  generalize t9.heap = H at hP hS ⊢
  have hP : va_P (dC, dI) classes [(h1, .inl (cI, cl, .inl fr))] H := hP
  have hD : va_D A [(h1, .inl (cI, cl, .inl fr))] := hD
  refine lv_topi (fun x_1 ex_1 => ?_)
  refine lv_istore_n (lv' := [(3, .int x_1), (2, .int 0), (0, .ref h1), (1, .int a)]) hx hb d_Lexicon_hashOf_7 rfl hl (by decide) rfl (fun ls hl => ?_)
  exact lp_Lexicon_hashOf_8 l dC dI h1 cI cl fr a hcl hx hb hml hown hts hK hA hr hlocks (m_Lexicon_hashOf_r cl fr a) (((cl : Int) - x_1.toInt).toNat + 1) x_1 0 (by rw [ex_1]; exact mx0 a) (by exact Nat.lt_succ_self _) (by subst ex_1; unfold m_Lexicon_hashOf_r; rfl) _ _ _ (hP.sub [0] rfl) (hD.sub [0] (by decide) rfl) hS (lv_sub hl [0, 1, 2] rfl)

theorem is_in {cl : Nat} {x : Int32} {i : Nat} (hcl : cl ≤ 340000) (h0 : 0 ≤ x.toInt) (hi : x.toInt + i < 1073741824) (h : ¬ nI cl ≤ x + nI i) : x.toInt + i < cl ∧ vp_in (x + nI i) cl := by
  have e : (nI i).toInt = i := nI_toInt (by omega)
  have e2 : (x + nI i).toInt = x.toInt + i := by rw [i32_add (by rw [e]; omega) (by rw [e]; omega), e]
  rw [Int32.le_iff_toInt_le, e2, nI_toInt (show cl < 2 ^ 31 by omega)] at h
  rw [vp_in_iff, e2]; omega
theorem is_in600 {x : Int32} {i : Nat} (h0 : 0 ≤ x.toInt) (hi : x.toInt + i < 1073741824) (h : ¬ 600 ≤ x + nI i) : x.toInt + i < 600 ∧ vp_in (x + nI i) 600 := is_in (cl := 600) (by decide) h0 hi h

def m_Lexicon_isAt_L11_r (k_letters_v : Nat → Int32) (k_starts_v : Nat → Int32) (cl : Nat) (fr : Nat → Int32) (a : Int32) (b : Int32) : Nat → Nat → Int32 → Int32
  | 0, _, _ => 0
  | n + 1, i, ow => if ((600 : Int32)) ≤ ((ow + (nI i))) then 0 else if ((nI cl)) ≤ ((b + (nI i))) then 0 else if ((k_letters_v (ow + (nI i)).toNatClampNeg)) = ((fr (b + (nI i)).toNatClampNeg)) then if ((k_letters_v (ow + (nI i)).toNatClampNeg)) = ((0 : Int32)) then 1 else m_Lexicon_isAt_L11_r k_letters_v k_starts_v cl fr a b n (i + 1) ow else 0
def m_Lexicon_isAt_r (k_letters_v : Nat → Int32) (k_starts_v : Nat → Int32) (cl : Nat) (fr : Nat → Int32) (a : Int32) (b : Int32) : Int32 := m_Lexicon_isAt_L11_r k_letters_v k_starts_v cl fr a b ((600 - ((k_starts_v a.toNatClampNeg)).toInt - 0).toNat + 1) 0 ((k_starts_v a.toNatClampNeg))
set_option maxHeartbeats 4000000 in
set_option maxRecDepth 100000 in
theorem lp_Lexicon_isAt_11 (l : Launch) (dC : Nat → ClassId) (dI : Nat → Nat → Nat) (h0 : Nat) (k_letters : Nat) (k_starts : Nat) (k_arities : Nat) (k_kinds : Nat) (k_slots : Nat) (k_words : Int32) (k_used : Int32) (k_letters_v : Nat → Int32) (k_starts_v : Nat → Int32) (cI : ClassId) (h1 : Nat) (cl : Nat) (fr : Nat → Int32) (a : Int32) (b : Int32) (hcl : cl ≤ 340000) (hst : ∀ j : Nat, 0 ≤ (k_starts_v j).toInt ∧ (k_starts_v j).toInt ≤ 600) (ha : vp_in a 86) (hb0 : 0 ≤ b.toInt) (hb1 : b.toInt < 1000000000) {p : Program} {e : Env} {s : State} {m : MethodId} {below : List Frame} {meth : Method} {c : Code} {A : Nat → Prop} (hx : p.tables.exec = Jvm.exec) (hb : c.code = b_Lexicon_isAt) (hml : c.maxLocals = 6) (hown : s.vm.findClass R_Lexicon = some m.cls) (hts : ∀ w ∈ w_Lexicon_isAt, w.before ([.ref h0, .int a, .ref h1, .int b] : List Value).toArray s = true) (hK : va_K (dC, dI) classes [(cI, .int)] s) (hA : ∀ q : Nat, s.heap.size ≤ q → A q) (hr : meth.sig.returnType = (some .boolean)) (hlocks : meth.locks = false) (RV0 : Int32) : ∀ (n : Nat) (i : Nat) (ow : Int32), 0 ≤ ow.toInt ∧ ow.toInt ≤ 600 → ow.toInt + i < 1073741824 → b.toInt + i < 1073741824 → (600 - ow.toInt - i).toNat < n → m_Lexicon_isAt_L11_r k_letters_v k_starts_v cl fr a b n i ow = RV0 → ∀ (H : Heap) (locs : List Loc) (ls : Array Slot), va_P (dC, dI) classes [(h0, .inr (2, [.ref k_letters, .ref k_starts, .ref k_arities, .ref k_kinds, .ref k_slots, .int k_words, .int k_used])), (k_letters, .inl (cI, 600, .inl k_letters_v)), (k_starts, .inl (cI, 86, .inl k_starts_v)), (h1, .inl (cI, cl, .inl fr))] H → va_D A [(h0, .inr (2, [.ref k_letters, .ref k_starts, .ref k_arities, .ref k_kinds, .ref k_slots, .int k_words, .int k_used])), (k_letters, .inl (cI, 600, .inl k_letters_v)), (k_starts, .inl (cI, 86, .inl k_starts_v)), (h1, .inl (cI, cl, .inl fr))] → va_S A s.heap H locs → lv_has ls 6 [(5, .int (nI i)), (4, .int ow), (0, .ref h0), (2, .ref h1), (3, .int b)] → W p l e ({ frames := 0, cells := 0, slots := 0, locals := 0 } : Room) s m ([.ref h0, .int a, .ref h1, .int b] : List Value).toArray below meth c H locs 0 0 (MQ below (va_Qi (fun (r : Int32) (_ : Unit) => r = RV0) (fun (_ : Unit) t => va_P (dC, dI) classes [(h0, .inr (2, [.ref k_letters, .ref k_starts, .ref k_arities, .ref k_kinds, .ref k_slots, .int k_words, .int k_used])), (k_letters, .inl (cI, 600, .inl k_letters_v)), (k_starts, .inl (cI, 86, .inl k_starts_v)), (h1, .inl (cI, cl, .inl fr))] t.heap ∧ va_K (dC, dI) classes [(cI, .int)] t ∧ va_D A [(h0, .inr (2, [.ref k_letters, .ref k_starts, .ref k_arities, .ref k_kinds, .ref k_slots, .int k_words, .int k_used])), (k_letters, .inl (cI, 600, .inl k_letters_v)), (k_starts, .inl (cI, 86, .inl k_starts_v)), (h1, .inl (cI, cl, .inl fr))]) A) ([.ref h0, .int a, .ref h1, .int b] : List Value).toArray s 0 0 A) (F0 m 11 ls []) := by
  have htt : ∀ w ∈ tw_T, w.before _ s = true := fun w h => hts w (List.mem_cons_of_mem _ h)
  intro n
  induction n with
  | zero =>
    intro i ow ho hoi hbi hmu
    exact absurd hmu (Nat.not_lt_zero _)
  | succ n ih =>
    intro i ow ho hoi hbi hmu hR0 H locs ls hP hD hS hl
    refine lv_iload hx hb d_Lexicon_isAt_11 (lv_at hl 1 rfl) ?_
    refine lv_iload hx hb d_Lexicon_isAt_13 (lv_at hl 0 rfl) ?_
    refine lv_iadd hx hb d_Lexicon_isAt_15 ?_
    refine lv_sipush (v := 600) hx hb d_Lexicon_isAt_16 (by decide) ?_
    refine lv_icmp_ge (tgt := 73) hx hb d_Lexicon_isAt_19 (by decide) (fun c_1 => ?_) (fun c_1 => ?_)
    · refine lv_iconst (v := 0) hx hb d_Lexicon_isAt_73 (by decide) ?_
      have hP9 := hP.sub (ws' := [(h0, .inr (2, [.ref k_letters, .ref k_starts, .ref k_arities, .ref k_kinds, .ref k_slots, .int k_words, .int k_used])), (k_letters, .inl (cI, 600, .inl k_letters_v)), (k_starts, .inl (cI, 86, .inl k_starts_v)), (h1, .inl (cI, cl, .inl fr))]) [0, 1, 2, 3] rfl
      have hD9 := hD.sub (ws' := [(h0, .inr (2, [.ref k_letters, .ref k_starts, .ref k_arities, .ref k_kinds, .ref k_slots, .int k_words, .int k_used])), (k_letters, .inl (cI, 600, .inl k_letters_v)), (k_starts, .inl (cI, 86, .inl k_starts_v)), (h1, .inl (cI, cl, .inl fr))]) [0, 1, 2, 3] (by decide) rfl
      exact W.zret (v := 0) hx hb hr (by decide) (fun t9 ht hW => ⟨⟨0, (), rfl, by rw [← hR0]; simp only [m_Lexicon_isAt_L11_r, if_pos c_1], by rw [ht]; exact hP9, va_K.moved hW.alike hK, hD9⟩, hS.F ht⟩) hS.2.2 d_Lexicon_isAt_74
    · refine lv_iload_n hx hb d_Lexicon_isAt_22 rfl (lv_at hl 4 rfl) ?_
      refine lv_iload hx hb d_Lexicon_isAt_23 (lv_at hl 0 rfl) ?_
      refine lv_iadd hx hb d_Lexicon_isAt_25 ?_
      refine lv_aload_n hx hb d_Lexicon_isAt_26 rfl (lv_at hl 3 rfl) ?_
      refine va_alen (v := nI cl) hx hb hK hP 3 0 rfl rfl rfl d_Lexicon_isAt_27 ?_
      refine lv_icmp_ge (tgt := 73) hx hb d_Lexicon_isAt_28 (by decide) (fun c_2 => ?_) (fun c_2 => ?_)
      · refine lv_iconst (v := 0) hx hb d_Lexicon_isAt_73 (by decide) ?_
        have hP9 := hP.sub (ws' := [(h0, .inr (2, [.ref k_letters, .ref k_starts, .ref k_arities, .ref k_kinds, .ref k_slots, .int k_words, .int k_used])), (k_letters, .inl (cI, 600, .inl k_letters_v)), (k_starts, .inl (cI, 86, .inl k_starts_v)), (h1, .inl (cI, cl, .inl fr))]) [0, 1, 2, 3] rfl
        have hD9 := hD.sub (ws' := [(h0, .inr (2, [.ref k_letters, .ref k_starts, .ref k_arities, .ref k_kinds, .ref k_slots, .int k_words, .int k_used])), (k_letters, .inl (cI, 600, .inl k_letters_v)), (k_starts, .inl (cI, 86, .inl k_starts_v)), (h1, .inl (cI, cl, .inl fr))]) [0, 1, 2, 3] (by decide) rfl
        exact W.zret (v := 0) hx hb hr (by decide) (fun t9 ht hW => ⟨⟨0, (), rfl, by rw [← hR0]; simp only [m_Lexicon_isAt_L11_r, if_neg c_1, if_pos c_2], by rw [ht]; exact hP9, va_K.moved hW.alike hK, hD9⟩, hS.F ht⟩) hS.2.2 d_Lexicon_isAt_74
      · refine lv_aload_n hx hb d_Lexicon_isAt_31 rfl (lv_at hl 2 rfl) ?_
        refine va_get (D := (dC, dI)) (ci := 2) (v := .ref k_letters) (C := R_Lexicon) (T := F_Lexicon) (N := 7) hx hb htt iw_Lexicon hown hK hP 0 rfl rfl 0 (by decide) (htt _ lk_Lexicon_11) (fun _ h9 => h9) rfl d_Lexicon_isAt_32 ?_
        refine lv_iload hx hb d_Lexicon_isAt_35 (lv_at hl 1 rfl) ?_
        refine lv_iload hx hb d_Lexicon_isAt_37 (lv_at hl 0 rfl) ?_
        refine lv_iadd hx hb d_Lexicon_isAt_39 ?_
        have h_3 : vp_in (ow + (nI i)) 600 := (is_in600 ho.1 hoi c_1).2
        refine va_iald hx hb hK hP 1 0 rfl rfl h_3 d_Lexicon_isAt_40 ?_
        refine lv_aload_n hx hb d_Lexicon_isAt_41 rfl (lv_at hl 3 rfl) ?_
        refine lv_iload_n hx hb d_Lexicon_isAt_42 rfl (lv_at hl 4 rfl) ?_
        refine lv_iload hx hb d_Lexicon_isAt_43 (lv_at hl 0 rfl) ?_
        refine lv_iadd hx hb d_Lexicon_isAt_45 ?_
        have h_4 : vp_in (b + (nI i)) cl := (is_in hcl hb0 hbi c_2).2
        refine va_iald hx hb hK hP 3 0 rfl rfl h_4 d_Lexicon_isAt_46 ?_
        refine lv_icmp_eq (tgt := 52) hx hb d_Lexicon_isAt_47 (by decide) (fun c_5 => ?_) (fun c_5 => ?_)
        · refine lv_aload_n hx hb d_Lexicon_isAt_52 rfl (lv_at hl 2 rfl) ?_
          refine va_get (D := (dC, dI)) (ci := 2) (v := .ref k_letters) (C := R_Lexicon) (T := F_Lexicon) (N := 7) hx hb htt iw_Lexicon hown hK hP 0 rfl rfl 0 (by decide) (htt _ lk_Lexicon_11) (fun _ h9 => h9) rfl d_Lexicon_isAt_53 ?_
          refine lv_iload hx hb d_Lexicon_isAt_56 (lv_at hl 1 rfl) ?_
          refine lv_iload hx hb d_Lexicon_isAt_58 (lv_at hl 0 rfl) ?_
          refine lv_iadd hx hb d_Lexicon_isAt_60 ?_
          have h_6 : vp_in (ow + (nI i)) 600 := (is_in600 ho.1 hoi c_1).2
          refine va_iald hx hb hK hP 1 0 rfl rfl h_6 d_Lexicon_isAt_61 ?_
          refine lv_if_ne (tgt := 67) hx hb d_Lexicon_isAt_62 (by decide) (fun c_7 => ?_) (fun c_7 => ?_)
          · refine lv_iinc (v := nI (i + 1)) (lv' := [(5, .int (nI (i + 1))), (4, .int ow), (0, .ref h0), (2, .ref h1), (3, .int b)]) hx hb d_Lexicon_isAt_67 hl (k := 0) rfl (nI_1 _) (by decide) rfl (fun ls hl => ?_)
            refine lv_goto (tgt := 11) hx hb d_Lexicon_isAt_70 (by decide) ?_
            exact ih (i + 1) ow (ho) (by have h8 := (is_in600 ho.1 hoi c_1).1; omega) (by have h8 := (is_in hcl hb0 hbi c_2).1; omega) (by have h8 := (is_in600 ho.1 hoi c_1).1; omega) (by rw [← hR0]; simp only [m_Lexicon_isAt_L11_r, if_neg c_1, if_neg c_2, if_pos c_5, if_neg c_7]) _ _ _ (hP.sub [0, 1, 2, 3] rfl) (hD.sub [0, 1, 2, 3] (by decide) rfl) hS (lv_sub hl [0, 1, 2, 3, 4] rfl)
          · refine lv_iconst (v := 1) hx hb d_Lexicon_isAt_65 (by decide) ?_
            have hP9 := hP.sub (ws' := [(h0, .inr (2, [.ref k_letters, .ref k_starts, .ref k_arities, .ref k_kinds, .ref k_slots, .int k_words, .int k_used])), (k_letters, .inl (cI, 600, .inl k_letters_v)), (k_starts, .inl (cI, 86, .inl k_starts_v)), (h1, .inl (cI, cl, .inl fr))]) [0, 1, 2, 3] rfl
            have hD9 := hD.sub (ws' := [(h0, .inr (2, [.ref k_letters, .ref k_starts, .ref k_arities, .ref k_kinds, .ref k_slots, .int k_words, .int k_used])), (k_letters, .inl (cI, 600, .inl k_letters_v)), (k_starts, .inl (cI, 86, .inl k_starts_v)), (h1, .inl (cI, cl, .inl fr))]) [0, 1, 2, 3] (by decide) rfl
            exact W.zret (v := 1) hx hb hr (by decide) (fun t9 ht hW => ⟨⟨1, (), rfl, by rw [← hR0]; simp only [m_Lexicon_isAt_L11_r, if_neg c_1, if_neg c_2, if_pos c_5, if_pos c_7], by rw [ht]; exact hP9, va_K.moved hW.alike hK, hD9⟩, hS.F ht⟩) hS.2.2 d_Lexicon_isAt_66
        · refine lv_iconst (v := 0) hx hb d_Lexicon_isAt_50 (by decide) ?_
          have hP9 := hP.sub (ws' := [(h0, .inr (2, [.ref k_letters, .ref k_starts, .ref k_arities, .ref k_kinds, .ref k_slots, .int k_words, .int k_used])), (k_letters, .inl (cI, 600, .inl k_letters_v)), (k_starts, .inl (cI, 86, .inl k_starts_v)), (h1, .inl (cI, cl, .inl fr))]) [0, 1, 2, 3] rfl
          have hD9 := hD.sub (ws' := [(h0, .inr (2, [.ref k_letters, .ref k_starts, .ref k_arities, .ref k_kinds, .ref k_slots, .int k_words, .int k_used])), (k_letters, .inl (cI, 600, .inl k_letters_v)), (k_starts, .inl (cI, 86, .inl k_starts_v)), (h1, .inl (cI, cl, .inl fr))]) [0, 1, 2, 3] (by decide) rfl
          exact W.zret (v := 0) hx hb hr (by decide) (fun t9 ht hW => ⟨⟨0, (), rfl, by rw [← hR0]; simp only [m_Lexicon_isAt_L11_r, if_neg c_1, if_neg c_2, if_neg c_5], by rw [ht]; exact hP9, va_K.moved hW.alike hK, hD9⟩, hS.F ht⟩) hS.2.2 d_Lexicon_isAt_51

set_option maxHeartbeats 4000000 in
set_option maxRecDepth 100000 in
/-- whether a WORD is the one of that code -/
theorem c_Lexicon_isAt (l : Launch) (dC : Nat → ClassId) (dI : Nat → Nat → Nat) (sz : Nat) (h0 : Nat) (k_letters : Nat) (k_starts : Nat) (k_arities : Nat) (k_kinds : Nat) (k_slots : Nat) (k_words : Int32) (k_used : Int32) (k_letters_v : Nat → Int32) (k_starts_v : Nat → Int32) (cI : ClassId) (h1 : Nat) (cl : Nat) (fr : Nat → Int32) (a : Int32) (b : Int32) (hcl : cl ≤ 340000) (hst : ∀ j : Nat, 0 ≤ (k_starts_v j).toInt ∧ (k_starts_v j).toInt ≤ 600) (ha : vp_in a 86) (hb0 : 0 ≤ b.toInt) (hb1 : b.toInt < 1000000000) : Met l y_Lexicon_isAt w_Lexicon_isAt ({ frames := 0, cells := 0, slots := 0, locals := 0 }) (va_Pc [.ref h0, .int a, .ref h1, .int b] (fun U => U.heap.size = sz ∧ va_P (dC, dI) classes [(h0, .inr (2, [.ref k_letters, .ref k_starts, .ref k_arities, .ref k_kinds, .ref k_slots, .int k_words, .int k_used])), (k_letters, .inl (cI, 600, .inl k_letters_v)), (k_starts, .inl (cI, 86, .inl k_starts_v)), (h1, .inl (cI, cl, .inl fr))] U.heap ∧ va_K (dC, dI) classes [(cI, .int)] U ∧ va_D (fun _ => True) [(h0, .inr (2, [.ref k_letters, .ref k_starts, .ref k_arities, .ref k_kinds, .ref k_slots, .int k_words, .int k_used])), (k_letters, .inl (cI, 600, .inl k_letters_v)), (k_starts, .inl (cI, 86, .inl k_starts_v)), (h1, .inl (cI, cl, .inl fr))])) (va_Qi (fun (r : Int32) (_ : Unit) => r = m_Lexicon_isAt_r k_letters_v k_starts_v cl fr a b) (fun (_ : Unit) t => va_P (dC, dI) classes [(h0, .inr (2, [.ref k_letters, .ref k_starts, .ref k_arities, .ref k_kinds, .ref k_slots, .int k_words, .int k_used])), (k_letters, .inl (cI, 600, .inl k_letters_v)), (k_starts, .inl (cI, 86, .inl k_starts_v)), (h1, .inl (cI, cl, .inl fr))] t.heap ∧ va_K (dC, dI) classes [(cI, .int)] t ∧ va_D (va_A [(h0, .inr (2, [.ref k_letters, .ref k_starts, .ref k_arities, .ref k_kinds, .ref k_slots, .int k_words, .int k_used])), (k_letters, .inl (cI, 600, .inl k_letters_v)), (k_starts, .inl (cI, 86, .inl k_starts_v)), (h1, .inl (cI, cl, .inl fr))] sz) [(h0, .inr (2, [.ref k_letters, .ref k_starts, .ref k_arities, .ref k_kinds, .ref k_slots, .int k_words, .int k_used])), (k_letters, .inl (cI, 600, .inl k_letters_v)), (k_starts, .inl (cI, 86, .inl k_starts_v)), (h1, .inl (cI, cl, .inl fr))]) (va_A [(h0, .inr (2, [.ref k_letters, .ref k_starts, .ref k_arities, .ref k_kinds, .ref k_slots, .int k_words, .int k_used])), (k_letters, .inl (cI, 600, .inl k_letters_v)), (k_starts, .inl (cI, 86, .inl k_starts_v)), (h1, .inl (cI, cl, .inl fr))] sz)) 0 0 (va_A [(h0, .inr (2, [.ref k_letters, .ref k_starts, .ref k_arities, .ref k_kinds, .ref k_slots, .int k_words, .int k_used])), (k_letters, .inl (cI, 600, .inl k_letters_v)), (k_starts, .inl (cI, 86, .inl k_starts_v)), (h1, .inl (cI, cl, .inl fr))] sz) := by
  refine Met.ofW (cc := b_Lexicon_isAt) (maxL := 6) (ret := (some .boolean)) (by decide) rfl ?_
  intro p e s m args below meth c s₁ B hml hv
  obtain ⟨rfl, hsz, hP, hK, hD0⟩ := hv
  have hx := B.exec
  have hb := B.bytes
  have hr := B.returns
  have hts := atoms_spec (ws := w_Lexicon_isAt) B.pre
  have htt : ∀ w ∈ tw_T, w.before _ s = true := fun w h => hts w (List.mem_cons_of_mem _ h)
  have hown : s.vm.findClass R_Lexicon = some m.cls := findClass_of_methodNamed B.named
  have hlocks := B.notSynchronized
  subst hsz
  have hD := hD0.self (sz := s.heap.size)
  generalize hAe : va_A [(h0, .inr (2, [.ref k_letters, .ref k_starts, .ref k_arities, .ref k_kinds, .ref k_slots, .int k_words, .int k_used])), (k_letters, .inl (cI, 600, .inl k_letters_v)), (k_starts, .inl (cI, 86, .inl k_starts_v)), (h1, .inl (cI, cl, .inl fr))] s.heap.size = A at hD ⊢
  have hA : ∀ q : Nat, s.heap.size ≤ q → A q := fun q h => by rw [← hAe]; exact Or.inr h
  have hS : va_S A s.heap s.heap [] := va_S.rf
  have hP : va_P (dC, dI) classes [(h0, .inr (2, [.ref k_letters, .ref k_starts, .ref k_arities, .ref k_kinds, .ref k_slots, .int k_words, .int k_used])), (k_letters, .inl (cI, 600, .inl k_letters_v)), (k_starts, .inl (cI, 86, .inl k_starts_v)), (h1, .inl (cI, cl, .inl fr))] s.heap := hP
  have hl := lv_entry ([.ref h0, .int a, .ref h1, .int b]) (n := 6) (Nat.le_of_ble_eq_true rfl)
  rw [lg_entry_eq]
  generalize (lg_sl ([.ref h0, .int a, .ref h1, .int b]) ++ List.replicate (6 - (lg_sl ([.ref h0, .int a, .ref h1, .int b])).length) Slot.unset).toArray = ls at hl ⊢
  have hl : lv_has ls 6 [(0, .ref h0), (1, .int a), (2, .ref h1), (3, .int b)] := hl
  refine lv_aload_n hx hb d_Lexicon_isAt_0 rfl (lv_at hl 0 rfl) ?_
  refine va_get (D := (dC, dI)) (ci := 2) (v := .ref k_starts) (C := R_Lexicon) (T := F_Lexicon) (N := 7) hx hb htt iw_Lexicon hown hK hP 0 rfl rfl 1 (by decide) (htt _ lk_Lexicon_15) (fun _ h9 => h9) rfl d_Lexicon_isAt_1 ?_
  refine lv_iload_n hx hb d_Lexicon_isAt_4 rfl (lv_at hl 1 rfl) ?_
  have h_1 : vp_in a 86 := ha
  refine va_iald hx hb hK hP 2 0 rfl rfl h_1 d_Lexicon_isAt_5 ?_
  refine lv_topi (fun x_2 ex_2 => ?_)
  refine lv_istore (lv' := [(4, .int x_2), (0, .ref h0), (1, .int a), (2, .ref h1), (3, .int b)]) hx hb d_Lexicon_isAt_6 hl (by decide) rfl (fun ls hl => ?_)
  refine lv_iconst (v := 0) hx hb d_Lexicon_isAt_8 (by decide) ?_
  refine lv_istore (lv' := [(5, .int 0), (4, .int x_2), (0, .ref h0), (1, .int a), (2, .ref h1), (3, .int b)]) hx hb d_Lexicon_isAt_9 hl (by decide) rfl (fun ls hl => ?_)
  exact lp_Lexicon_isAt_11 l dC dI h0 k_letters k_starts k_arities k_kinds k_slots k_words k_used k_letters_v k_starts_v cI h1 cl fr a b hcl hst ha hb0 hb1 hx hb hml hown hts hK hA hr hlocks (m_Lexicon_isAt_r k_letters_v k_starts_v cl fr a b) ((600 - x_2.toInt - 0).toNat + 1) 0 x_2 (by rw [ex_2]; exact hst _) (by rw [ex_2]; have := hst a.toNatClampNeg; omega) (by omega) (by exact Nat.lt_succ_self _) (by subst ex_2; unfold m_Lexicon_isAt_r; rfl) _ _ _ (hP.sub [0, 1, 2, 3] rfl) (hD.sub [0, 1, 2, 3] (by decide) rfl) hS (lv_sub hl [0, 1, 2, 4, 5] rfl)

def m_Lexicon_arity_r (k_arities_v : Nat → Int32) (a : Int32) : Int32 := if a < ((0 : Int32)) then 0 else if ((86 : Int32)) ≤ a then 0 else k_arities_v a.toNatClampNeg
set_option maxHeartbeats 4000000 in
set_option maxRecDepth 100000 in
theorem c_Lexicon_arity (l : Launch) (dC : Nat → ClassId) (dI : Nat → Nat → Nat) (sz : Nat) (h0 : Nat) (k_letters : Nat) (k_starts : Nat) (k_arities : Nat) (k_kinds : Nat) (k_slots : Nat) (k_words : Int32) (k_used : Int32) (k_arities_v : Nat → Int32) (cI : ClassId) (a : Int32)  : Met l y_Lexicon_arity w_Lexicon_arity ({ frames := 0, cells := 0, slots := 0, locals := 0 }) (va_Pc [.ref h0, .int a] (fun U => U.heap.size = sz ∧ va_P (dC, dI) classes [(h0, .inr (2, [.ref k_letters, .ref k_starts, .ref k_arities, .ref k_kinds, .ref k_slots, .int k_words, .int k_used])), (k_arities, .inl (cI, 86, .inl k_arities_v))] U.heap ∧ va_K (dC, dI) classes [(cI, .int)] U ∧ va_D (fun _ => True) [(h0, .inr (2, [.ref k_letters, .ref k_starts, .ref k_arities, .ref k_kinds, .ref k_slots, .int k_words, .int k_used])), (k_arities, .inl (cI, 86, .inl k_arities_v))])) (va_Qi (fun (r : Int32) (_ : Unit) => r = m_Lexicon_arity_r k_arities_v a) (fun (_ : Unit) t => va_P (dC, dI) classes [(h0, .inr (2, [.ref k_letters, .ref k_starts, .ref k_arities, .ref k_kinds, .ref k_slots, .int k_words, .int k_used])), (k_arities, .inl (cI, 86, .inl k_arities_v))] t.heap ∧ va_K (dC, dI) classes [(cI, .int)] t ∧ va_D (va_A [(h0, .inr (2, [.ref k_letters, .ref k_starts, .ref k_arities, .ref k_kinds, .ref k_slots, .int k_words, .int k_used])), (k_arities, .inl (cI, 86, .inl k_arities_v))] sz) [(h0, .inr (2, [.ref k_letters, .ref k_starts, .ref k_arities, .ref k_kinds, .ref k_slots, .int k_words, .int k_used])), (k_arities, .inl (cI, 86, .inl k_arities_v))]) (va_A [(h0, .inr (2, [.ref k_letters, .ref k_starts, .ref k_arities, .ref k_kinds, .ref k_slots, .int k_words, .int k_used])), (k_arities, .inl (cI, 86, .inl k_arities_v))] sz)) 0 0 (va_A [(h0, .inr (2, [.ref k_letters, .ref k_starts, .ref k_arities, .ref k_kinds, .ref k_slots, .int k_words, .int k_used])), (k_arities, .inl (cI, 86, .inl k_arities_v))] sz) := by
  refine Met.ofW (cc := b_Lexicon_arity) (maxL := 2) (ret := (some .int)) (by decide) rfl ?_
  intro p e s m args below meth c s₁ B hml hv
  obtain ⟨rfl, hsz, hP, hK, hD0⟩ := hv
  have hx := B.exec
  have hb := B.bytes
  have hr := B.returns
  have hts := atoms_spec (ws := w_Lexicon_arity) B.pre
  have htt : ∀ w ∈ tw_T, w.before _ s = true := fun w h => hts w (List.mem_cons_of_mem _ h)
  have hown : s.vm.findClass R_Lexicon = some m.cls := findClass_of_methodNamed B.named
  have hlocks := B.notSynchronized
  subst hsz
  have hD := hD0.self (sz := s.heap.size)
  generalize hAe : va_A [(h0, .inr (2, [.ref k_letters, .ref k_starts, .ref k_arities, .ref k_kinds, .ref k_slots, .int k_words, .int k_used])), (k_arities, .inl (cI, 86, .inl k_arities_v))] s.heap.size = A at hD ⊢
  have hA : ∀ q : Nat, s.heap.size ≤ q → A q := fun q h => by rw [← hAe]; exact Or.inr h
  have hS : va_S A s.heap s.heap [] := va_S.rf
  have hP : va_P (dC, dI) classes [(h0, .inr (2, [.ref k_letters, .ref k_starts, .ref k_arities, .ref k_kinds, .ref k_slots, .int k_words, .int k_used])), (k_arities, .inl (cI, 86, .inl k_arities_v))] s.heap := hP
  have hl := lv_entry ([.ref h0, .int a]) (n := 2) (Nat.le_of_ble_eq_true rfl)
  rw [lg_entry_eq]
  generalize (lg_sl ([.ref h0, .int a]) ++ List.replicate (2 - (lg_sl ([.ref h0, .int a])).length) Slot.unset).toArray = ls at hl ⊢
  have hl : lv_has ls 2 [(0, .ref h0), (1, .int a)] := hl
  refine lv_iload_n hx hb d_Lexicon_arity_0 rfl (lv_at hl 1 rfl) ?_
  refine lv_if_lt (tgt := 19) hx hb d_Lexicon_arity_1 (by decide) (fun c_1 => ?_) (fun c_1 => ?_)
  · refine lv_iconst (v := 0) hx hb d_Lexicon_arity_19 (by decide) ?_
    have hP9 := hP.sub (ws' := [(h0, .inr (2, [.ref k_letters, .ref k_starts, .ref k_arities, .ref k_kinds, .ref k_slots, .int k_words, .int k_used])), (k_arities, .inl (cI, 86, .inl k_arities_v))]) [0, 1] rfl
    have hD9 := hD.sub (ws' := [(h0, .inr (2, [.ref k_letters, .ref k_starts, .ref k_arities, .ref k_kinds, .ref k_slots, .int k_words, .int k_used])), (k_arities, .inl (cI, 86, .inl k_arities_v))]) [0, 1] (by decide) rfl
    exact W.iret (v := 0) hx hb hr (fun t9 ht hW => ⟨⟨0, (), rfl, by unfold m_Lexicon_arity_r; simp only [if_pos c_1], by rw [ht]; exact hP9, va_K.moved hW.alike hK, hD9⟩, hS.F ht⟩) hS.2.2 d_Lexicon_arity_20
  · refine lv_iload_n hx hb d_Lexicon_arity_4 rfl (lv_at hl 1 rfl) ?_
    refine lv_bipush (v := 86) hx hb d_Lexicon_arity_5 (by decide) ?_
    refine lv_icmp_ge (tgt := 19) hx hb d_Lexicon_arity_7 (by decide) (fun c_2 => ?_) (fun c_2 => ?_)
    · refine lv_iconst (v := 0) hx hb d_Lexicon_arity_19 (by decide) ?_
      have hP9 := hP.sub (ws' := [(h0, .inr (2, [.ref k_letters, .ref k_starts, .ref k_arities, .ref k_kinds, .ref k_slots, .int k_words, .int k_used])), (k_arities, .inl (cI, 86, .inl k_arities_v))]) [0, 1] rfl
      have hD9 := hD.sub (ws' := [(h0, .inr (2, [.ref k_letters, .ref k_starts, .ref k_arities, .ref k_kinds, .ref k_slots, .int k_words, .int k_used])), (k_arities, .inl (cI, 86, .inl k_arities_v))]) [0, 1] (by decide) rfl
      exact W.iret (v := 0) hx hb hr (fun t9 ht hW => ⟨⟨0, (), rfl, by unfold m_Lexicon_arity_r; simp only [if_neg c_1, if_pos c_2], by rw [ht]; exact hP9, va_K.moved hW.alike hK, hD9⟩, hS.F ht⟩) hS.2.2 d_Lexicon_arity_20
    · refine lv_aload_n hx hb d_Lexicon_arity_10 rfl (lv_at hl 0 rfl) ?_
      refine va_get (D := (dC, dI)) (ci := 2) (v := .ref k_arities) (C := R_Lexicon) (T := F_Lexicon) (N := 7) hx hb htt iw_Lexicon hown hK hP 0 rfl rfl 2 (by decide) (htt _ lk_Lexicon_18) (fun _ h9 => h9) rfl d_Lexicon_arity_11 ?_
      refine lv_iload_n hx hb d_Lexicon_arity_14 rfl (lv_at hl 1 rfl) ?_
      have h_3 : vp_in a 86 := by rw [vp_in_iff]; simp only [Int32.lt_iff_toInt_lt, Int32.le_iff_toInt_le, Int32.reduceToInt] at c_1 c_2 ⊢; omega
      refine va_iald hx hb hK hP 1 0 rfl rfl h_3 d_Lexicon_arity_15 ?_
      refine lv_goto (tgt := 20) hx hb d_Lexicon_arity_16 (by decide) ?_
      have hP9 := hP.sub (ws' := [(h0, .inr (2, [.ref k_letters, .ref k_starts, .ref k_arities, .ref k_kinds, .ref k_slots, .int k_words, .int k_used])), (k_arities, .inl (cI, 86, .inl k_arities_v))]) [0, 1] rfl
      have hD9 := hD.sub (ws' := [(h0, .inr (2, [.ref k_letters, .ref k_starts, .ref k_arities, .ref k_kinds, .ref k_slots, .int k_words, .int k_used])), (k_arities, .inl (cI, 86, .inl k_arities_v))]) [0, 1] (by decide) rfl
      exact W.iret (v := k_arities_v a.toNatClampNeg) hx hb hr (fun t9 ht hW => ⟨⟨k_arities_v a.toNatClampNeg, (), rfl, by unfold m_Lexicon_arity_r; simp only [if_neg c_1, if_neg c_2], by rw [ht]; exact hP9, va_K.moved hW.alike hK, hD9⟩, hS.F ht⟩) hS.2.2 d_Lexicon_arity_20
