theorem d_Lexicon_beginWord_0 : decode b_Lexicon_beginWord 0 = .ok (.aload_n 0, 1) := by decide +kernel
theorem d_Lexicon_beginWord_1 : decode b_Lexicon_beginWord 1 = .ok (.getfield 66, 3) := by decide +kernel
theorem d_Lexicon_beginWord_4 : decode b_Lexicon_beginWord 4 = .ok (.iconst 1, 1) := by decide +kernel
theorem d_Lexicon_beginWord_5 : decode b_Lexicon_beginWord 5 = .ok (.iadd, 1) := by decide +kernel
theorem d_Lexicon_beginWord_6 : decode b_Lexicon_beginWord 6 = .ok (.bipush 86, 2) := by decide +kernel
theorem d_Lexicon_beginWord_8 : decode b_Lexicon_beginWord 8 = .ok (.if_icmp .ge 26, 3) := by decide +kernel
theorem d_Lexicon_beginWord_11 : decode b_Lexicon_beginWord 11 = .ok (.aload_n 0, 1) := by decide +kernel
theorem d_Lexicon_beginWord_12 : decode b_Lexicon_beginWord 12 = .ok (.dup, 1) := by decide +kernel
theorem d_Lexicon_beginWord_13 : decode b_Lexicon_beginWord 13 = .ok (.getfield 66, 3) := by decide +kernel
theorem d_Lexicon_beginWord_16 : decode b_Lexicon_beginWord 16 = .ok (.iconst 1, 1) := by decide +kernel
theorem d_Lexicon_beginWord_17 : decode b_Lexicon_beginWord 17 = .ok (.iadd, 1) := by decide +kernel
theorem d_Lexicon_beginWord_18 : decode b_Lexicon_beginWord 18 = .ok (.putfield 66, 3) := by decide +kernel
theorem d_Lexicon_beginWord_21 : decode b_Lexicon_beginWord 21 = .ok (.aload_n 0, 1) := by decide +kernel
theorem d_Lexicon_beginWord_22 : decode b_Lexicon_beginWord 22 = .ok (.getfield 15, 3) := by decide +kernel
theorem d_Lexicon_beginWord_25 : decode b_Lexicon_beginWord 25 = .ok (.aload_n 0, 1) := by decide +kernel
theorem d_Lexicon_beginWord_26 : decode b_Lexicon_beginWord 26 = .ok (.getfield 66, 3) := by decide +kernel
theorem d_Lexicon_beginWord_29 : decode b_Lexicon_beginWord 29 = .ok (.aload_n 0, 1) := by decide +kernel
theorem d_Lexicon_beginWord_30 : decode b_Lexicon_beginWord 30 = .ok (.getfield 70, 3) := by decide +kernel
theorem d_Lexicon_beginWord_33 : decode b_Lexicon_beginWord 33 = .ok (.iastore, 1) := by decide +kernel
theorem d_Lexicon_beginWord_34 : decode b_Lexicon_beginWord 34 = .ok (.return_, 1) := by decide +kernel
theorem lk_Lexicon_66 : Cond.fieldLink "TurtleWorld$Lexicon" 66 "TurtleWorld$Lexicon" "words" "I" ∈ tw_T := tw_i1 127 (by decide +kernel) (by decide +kernel)
theorem lk_Lexicon_70 : Cond.fieldLink "TurtleWorld$Lexicon" 70 "TurtleWorld$Lexicon" "used" "I" ∈ tw_T := tw_i1 128 (by decide +kernel) (by decide +kernel)
theorem d_Lexicon_addLetter_0 : decode b_Lexicon_addLetter 0 = .ok (.aload_n 0, 1) := by decide +kernel
theorem d_Lexicon_addLetter_1 : decode b_Lexicon_addLetter 1 = .ok (.getfield 70, 3) := by decide +kernel
theorem d_Lexicon_addLetter_4 : decode b_Lexicon_addLetter 4 = .ok (.sipush 600, 3) := by decide +kernel
theorem d_Lexicon_addLetter_7 : decode b_Lexicon_addLetter 7 = .ok (.if_icmp .ge 23, 3) := by decide +kernel
theorem d_Lexicon_addLetter_10 : decode b_Lexicon_addLetter 10 = .ok (.aload_n 0, 1) := by decide +kernel
theorem d_Lexicon_addLetter_11 : decode b_Lexicon_addLetter 11 = .ok (.getfield 11, 3) := by decide +kernel
theorem d_Lexicon_addLetter_14 : decode b_Lexicon_addLetter 14 = .ok (.aload_n 0, 1) := by decide +kernel
theorem d_Lexicon_addLetter_15 : decode b_Lexicon_addLetter 15 = .ok (.getfield 70, 3) := by decide +kernel
theorem d_Lexicon_addLetter_18 : decode b_Lexicon_addLetter 18 = .ok (.iload_n 1, 1) := by decide +kernel
theorem d_Lexicon_addLetter_19 : decode b_Lexicon_addLetter 19 = .ok (.iastore, 1) := by decide +kernel
theorem d_Lexicon_addLetter_20 : decode b_Lexicon_addLetter 20 = .ok (.aload_n 0, 1) := by decide +kernel
theorem d_Lexicon_addLetter_21 : decode b_Lexicon_addLetter 21 = .ok (.dup, 1) := by decide +kernel
theorem d_Lexicon_addLetter_22 : decode b_Lexicon_addLetter 22 = .ok (.getfield 70, 3) := by decide +kernel
theorem d_Lexicon_addLetter_25 : decode b_Lexicon_addLetter 25 = .ok (.iconst 1, 1) := by decide +kernel
theorem d_Lexicon_addLetter_26 : decode b_Lexicon_addLetter 26 = .ok (.iadd, 1) := by decide +kernel
theorem d_Lexicon_addLetter_27 : decode b_Lexicon_addLetter 27 = .ok (.putfield 70, 3) := by decide +kernel
theorem d_Lexicon_addLetter_30 : decode b_Lexicon_addLetter 30 = .ok (.return_, 1) := by decide +kernel
theorem d_Lexicon_addKind_0 : decode b_Lexicon_addKind 0 = .ok (.aload_n 0, 1) := by decide +kernel
theorem d_Lexicon_addKind_1 : decode b_Lexicon_addKind 1 = .ok (.getfield 18, 3) := by decide +kernel
theorem d_Lexicon_addKind_4 : decode b_Lexicon_addKind 4 = .ok (.aload_n 0, 1) := by decide +kernel
theorem d_Lexicon_addKind_5 : decode b_Lexicon_addKind 5 = .ok (.getfield 66, 3) := by decide +kernel
theorem d_Lexicon_addKind_8 : decode b_Lexicon_addKind 8 = .ok (.iaload, 1) := by decide +kernel
theorem d_Lexicon_addKind_9 : decode b_Lexicon_addKind 9 = .ok (.istore_n 2, 1) := by decide +kernel
theorem d_Lexicon_addKind_10 : decode b_Lexicon_addKind 10 = .ok (.iload_n 2, 1) := by decide +kernel
theorem d_Lexicon_addKind_11 : decode b_Lexicon_addKind 11 = .ok (.iconst 3, 1) := by decide +kernel
theorem d_Lexicon_addKind_12 : decode b_Lexicon_addKind 12 = .ok (.if_icmp .ge 29, 3) := by decide +kernel
theorem d_Lexicon_addKind_15 : decode b_Lexicon_addKind 15 = .ok (.aload_n 0, 1) := by decide +kernel
theorem d_Lexicon_addKind_16 : decode b_Lexicon_addKind 16 = .ok (.getfield 21, 3) := by decide +kernel
theorem d_Lexicon_addKind_19 : decode b_Lexicon_addKind 19 = .ok (.aload_n 0, 1) := by decide +kernel
theorem d_Lexicon_addKind_20 : decode b_Lexicon_addKind 20 = .ok (.getfield 66, 3) := by decide +kernel
theorem d_Lexicon_addKind_23 : decode b_Lexicon_addKind 23 = .ok (.iconst 3, 1) := by decide +kernel
theorem d_Lexicon_addKind_24 : decode b_Lexicon_addKind 24 = .ok (.imul, 1) := by decide +kernel
theorem d_Lexicon_addKind_25 : decode b_Lexicon_addKind 25 = .ok (.iload_n 2, 1) := by decide +kernel
theorem d_Lexicon_addKind_26 : decode b_Lexicon_addKind 26 = .ok (.iadd, 1) := by decide +kernel
theorem d_Lexicon_addKind_27 : decode b_Lexicon_addKind 27 = .ok (.iload_n 1, 1) := by decide +kernel
theorem d_Lexicon_addKind_28 : decode b_Lexicon_addKind 28 = .ok (.iastore, 1) := by decide +kernel
theorem d_Lexicon_addKind_29 : decode b_Lexicon_addKind 29 = .ok (.aload_n 0, 1) := by decide +kernel
theorem d_Lexicon_addKind_30 : decode b_Lexicon_addKind 30 = .ok (.getfield 18, 3) := by decide +kernel
theorem d_Lexicon_addKind_33 : decode b_Lexicon_addKind 33 = .ok (.aload_n 0, 1) := by decide +kernel
theorem d_Lexicon_addKind_34 : decode b_Lexicon_addKind 34 = .ok (.getfield 66, 3) := by decide +kernel
theorem d_Lexicon_addKind_37 : decode b_Lexicon_addKind 37 = .ok (.iload_n 2, 1) := by decide +kernel
theorem d_Lexicon_addKind_38 : decode b_Lexicon_addKind 38 = .ok (.iconst 1, 1) := by decide +kernel
theorem d_Lexicon_addKind_39 : decode b_Lexicon_addKind 39 = .ok (.iadd, 1) := by decide +kernel
theorem d_Lexicon_addKind_40 : decode b_Lexicon_addKind 40 = .ok (.iastore, 1) := by decide +kernel
theorem d_Lexicon_addKind_41 : decode b_Lexicon_addKind 41 = .ok (.return_, 1) := by decide +kernel
/-- what holds of the lexicon as it is being made -/
def lx_ok (wd us : Int32) (st ar sl : Nat → Int32) : Prop := (0 ≤ wd.toInt ∧ wd.toInt ≤ 85) ∧ (0 ≤ us.toInt ∧ us.toInt ≤ 600) ∧ (∀ j, 0 ≤ (st j).toInt ∧ (st j).toInt ≤ 600) ∧ (∀ j, 0 ≤ (ar j).toInt) ∧ ∀ j, 0 ≤ (sl j).toInt ∧ (sl j).toInt ≤ 85
theorem upd_all {P : Int32 → Prop} {f : Nat → Int32} (h : ∀ j, P (f j)) {k : Nat} {x : Int32} (hx : P x) : ∀ j, P (upd f k x j) := fun j => by
  unfold upd
  split
  · exact hx
  · exact h j
theorem lx_in86 {x : Int32} (h0 : 0 ≤ x.toInt) (h1 : x.toInt ≤ 85) : vp_in x 86 := by rw [vp_in_iff]; omega
theorem lx_p1 {x : Int32} (h0 : 0 ≤ x.toInt) (h1 : x.toInt ≤ 1000) : (x + 1).toInt = x.toInt + 1 := up_step (by omega)
theorem lx_kd {a b : Int32} (h0 : 0 ≤ a.toInt) (h1 : a.toInt ≤ 85) (h2 : 0 ≤ b.toInt) (h3 : ¬ 3 ≤ b) : vp_in (a * 3 + b) 258 := by
  refine kd_in ?_ ?_ ?_ h3
  · rw [Int32.lt_iff_toInt_lt]; simp only [Int32.reduceToInt]; omega
  · rw [Int32.le_iff_toInt_le]; simp only [Int32.reduceToInt]; omega
  · rw [Int32.lt_iff_toInt_lt]; simp only [Int32.reduceToInt]; omega

def m_Lexicon_beginWord_w0_5 (k_words : Int32) : Int32 := if ((86 : Int32)) ≤ ((k_words + 1)) then k_words else (k_words + 1)
def m_Lexicon_beginWord_w2 (k_words : Int32) (k_used : Int32) (k_starts_v : Nat → Int32) : Nat → Int32 := if ((86 : Int32)) ≤ ((k_words + 1)) then k_starts_v else upd k_starts_v (k_words + 1).toNatClampNeg k_used
set_option maxHeartbeats 4000000 in
set_option maxRecDepth 100000 in
theorem c_Lexicon_beginWord (l : Launch) (dC : Nat → ClassId) (dI : Nat → Nat → Nat) (sz : Nat) (h0 : Nat) (k_letters : Nat) (k_starts : Nat) (k_arities : Nat) (k_kinds : Nat) (k_slots : Nat) (k_words : Int32) (k_used : Int32) (k_letters_v : Nat → Int32) (k_starts_v : Nat → Int32) (k_arities_v : Nat → Int32) (k_kinds_v : Nat → Int32) (k_slots_v : Nat → Int32) (cI : ClassId) (hlx : lx_ok k_words k_used k_starts_v k_arities_v k_slots_v) : Met l y_Lexicon_beginWord w_Lexicon_beginWord ({ frames := 0, cells := 0, slots := 0, locals := 0 }) (va_Pc [.ref h0] (fun U => U.heap.size = sz ∧ va_P (dC, dI) classes [(h0, .inr (2, [.ref k_letters, .ref k_starts, .ref k_arities, .ref k_kinds, .ref k_slots, .int k_words, .int k_used])), (k_letters, .inl (cI, 600, .inl k_letters_v)), (k_starts, .inl (cI, 86, .inl k_starts_v)), (k_arities, .inl (cI, 86, .inl k_arities_v)), (k_kinds, .inl (cI, 258, .inl k_kinds_v)), (k_slots, .inl (cI, 256, .inl k_slots_v))] U.heap ∧ va_K (dC, dI) classes [(cI, .int)] U ∧ va_D (fun _ => True) [(h0, .inr (2, [.ref k_letters, .ref k_starts, .ref k_arities, .ref k_kinds, .ref k_slots, .int k_words, .int k_used])), (k_letters, .inl (cI, 600, .inl k_letters_v)), (k_starts, .inl (cI, 86, .inl k_starts_v)), (k_arities, .inl (cI, 86, .inl k_arities_v)), (k_kinds, .inl (cI, 258, .inl k_kinds_v)), (k_slots, .inl (cI, 256, .inl k_slots_v))])) (va_Qv (fun (_ : Unit) => True) (fun (_ : Unit) t => va_P (dC, dI) classes [(h0, .inr (2, [.ref k_letters, .ref k_starts, .ref k_arities, .ref k_kinds, .ref k_slots, .int (m_Lexicon_beginWord_w0_5 k_words), .int k_used])), (k_letters, .inl (cI, 600, .inl k_letters_v)), (k_starts, .inl (cI, 86, .inl (m_Lexicon_beginWord_w2 k_words k_used k_starts_v))), (k_arities, .inl (cI, 86, .inl k_arities_v)), (k_kinds, .inl (cI, 258, .inl k_kinds_v)), (k_slots, .inl (cI, 256, .inl k_slots_v))] t.heap ∧ va_K (dC, dI) classes [(cI, .int)] t ∧ va_D (va_A [(h0, .inr (2, [.ref k_letters, .ref k_starts, .ref k_arities, .ref k_kinds, .ref k_slots, .int k_words, .int k_used])), (k_letters, .inl (cI, 600, .inl k_letters_v)), (k_starts, .inl (cI, 86, .inl k_starts_v)), (k_arities, .inl (cI, 86, .inl k_arities_v)), (k_kinds, .inl (cI, 258, .inl k_kinds_v)), (k_slots, .inl (cI, 256, .inl k_slots_v))] sz) [(h0, .inr (2, [.ref k_letters, .ref k_starts, .ref k_arities, .ref k_kinds, .ref k_slots, .int (m_Lexicon_beginWord_w0_5 k_words), .int k_used])), (k_letters, .inl (cI, 600, .inl k_letters_v)), (k_starts, .inl (cI, 86, .inl (m_Lexicon_beginWord_w2 k_words k_used k_starts_v))), (k_arities, .inl (cI, 86, .inl k_arities_v)), (k_kinds, .inl (cI, 258, .inl k_kinds_v)), (k_slots, .inl (cI, 256, .inl k_slots_v))]) (va_A [(h0, .inr (2, [.ref k_letters, .ref k_starts, .ref k_arities, .ref k_kinds, .ref k_slots, .int k_words, .int k_used])), (k_letters, .inl (cI, 600, .inl k_letters_v)), (k_starts, .inl (cI, 86, .inl k_starts_v)), (k_arities, .inl (cI, 86, .inl k_arities_v)), (k_kinds, .inl (cI, 258, .inl k_kinds_v)), (k_slots, .inl (cI, 256, .inl k_slots_v))] sz)) 0 0 (va_A [(h0, .inr (2, [.ref k_letters, .ref k_starts, .ref k_arities, .ref k_kinds, .ref k_slots, .int k_words, .int k_used])), (k_letters, .inl (cI, 600, .inl k_letters_v)), (k_starts, .inl (cI, 86, .inl k_starts_v)), (k_arities, .inl (cI, 86, .inl k_arities_v)), (k_kinds, .inl (cI, 258, .inl k_kinds_v)), (k_slots, .inl (cI, 256, .inl k_slots_v))] sz) := by
  refine Met.ofW (cc := b_Lexicon_beginWord) (maxL := 1) (ret := none) (by decide) rfl ?_
  intro p e s m args below meth c s₁ B hml hv
  obtain ⟨rfl, hsz, hP, hK, hD0⟩ := hv
  have hx := B.exec
  have hb := B.bytes
  have hr := B.returns
  have hts := atoms_spec (ws := w_Lexicon_beginWord) B.pre
  have htt : ∀ w ∈ tw_T, w.before _ s = true := fun w h => hts w (List.mem_cons_of_mem _ h)
  have hown : s.vm.findClass R_Lexicon = some m.cls := findClass_of_methodNamed B.named
  have hlocks := B.notSynchronized
  subst hsz
  have hD := hD0.self (sz := s.heap.size)
  generalize hAe : va_A [(h0, .inr (2, [.ref k_letters, .ref k_starts, .ref k_arities, .ref k_kinds, .ref k_slots, .int k_words, .int k_used])), (k_letters, .inl (cI, 600, .inl k_letters_v)), (k_starts, .inl (cI, 86, .inl k_starts_v)), (k_arities, .inl (cI, 86, .inl k_arities_v)), (k_kinds, .inl (cI, 258, .inl k_kinds_v)), (k_slots, .inl (cI, 256, .inl k_slots_v))] s.heap.size = A at hD ⊢
  have hA : ∀ q : Nat, s.heap.size ≤ q → A q := fun q h => by rw [← hAe]; exact Or.inr h
  have hS : va_S A s.heap s.heap [] := va_S.rf
  have hP : va_P (dC, dI) classes [(h0, .inr (2, [.ref k_letters, .ref k_starts, .ref k_arities, .ref k_kinds, .ref k_slots, .int k_words, .int k_used])), (k_letters, .inl (cI, 600, .inl k_letters_v)), (k_starts, .inl (cI, 86, .inl k_starts_v)), (k_arities, .inl (cI, 86, .inl k_arities_v)), (k_kinds, .inl (cI, 258, .inl k_kinds_v)), (k_slots, .inl (cI, 256, .inl k_slots_v))] s.heap := hP
  have hl := lv_entry ([.ref h0]) (n := 1) (Nat.le_of_ble_eq_true rfl)
  rw [lg_entry_eq]
  generalize (lg_sl ([.ref h0]) ++ List.replicate (1 - (lg_sl ([.ref h0])).length) Slot.unset).toArray = ls at hl ⊢
  have hl : lv_has ls 1 [(0, .ref h0)] := hl
  refine lv_aload_n hx hb d_Lexicon_beginWord_0 rfl (lv_at hl 0 rfl) ?_
  refine va_get (D := (dC, dI)) (ci := 2) (v := .int k_words) (C := R_Lexicon) (T := F_Lexicon) (N := 7) hx hb htt iw_Lexicon hown hK hP 0 rfl rfl 5 (by decide) (htt _ lk_Lexicon_66) (fun _ h9 => h9) rfl d_Lexicon_beginWord_1 ?_
  refine lv_iconst (v := 1) hx hb d_Lexicon_beginWord_4 (by decide) ?_
  refine lv_iadd hx hb d_Lexicon_beginWord_5 ?_
  refine lv_bipush (v := 86) hx hb d_Lexicon_beginWord_6 (by decide) ?_
  refine lv_icmp_ge (tgt := 34) hx hb d_Lexicon_beginWord_8 (by decide) (fun c_1 => ?_) (fun c_1 => ?_)
  · have hP9 := hP.sub (ws' := [(h0, .inr (2, [.ref k_letters, .ref k_starts, .ref k_arities, .ref k_kinds, .ref k_slots, .int k_words, .int k_used])), (k_letters, .inl (cI, 600, .inl k_letters_v)), (k_starts, .inl (cI, 86, .inl k_starts_v)), (k_arities, .inl (cI, 86, .inl k_arities_v)), (k_kinds, .inl (cI, 258, .inl k_kinds_v)), (k_slots, .inl (cI, 256, .inl k_slots_v))]) [0, 1, 2, 3, 4, 5] rfl
    have hD9 := hD.sub (ws' := [(h0, .inr (2, [.ref k_letters, .ref k_starts, .ref k_arities, .ref k_kinds, .ref k_slots, .int k_words, .int k_used])), (k_letters, .inl (cI, 600, .inl k_letters_v)), (k_starts, .inl (cI, 86, .inl k_starts_v)), (k_arities, .inl (cI, 86, .inl k_arities_v)), (k_kinds, .inl (cI, 258, .inl k_kinds_v)), (k_slots, .inl (cI, 256, .inl k_slots_v))]) [0, 1, 2, 3, 4, 5] (by decide) rfl
    have eW : [(h0, .inr (2, [.ref k_letters, .ref k_starts, .ref k_arities, .ref k_kinds, .ref k_slots, .int k_words, .int k_used])), (k_letters, .inl (cI, 600, .inl k_letters_v)), (k_starts, .inl (cI, 86, .inl k_starts_v)), (k_arities, .inl (cI, 86, .inl k_arities_v)), (k_kinds, .inl (cI, 258, .inl k_kinds_v)), (k_slots, .inl (cI, 256, .inl k_slots_v))] = ([(h0, .inr (2, [.ref k_letters, .ref k_starts, .ref k_arities, .ref k_kinds, .ref k_slots, .int (m_Lexicon_beginWord_w0_5 k_words), .int k_used])), (k_letters, .inl (cI, 600, .inl k_letters_v)), (k_starts, .inl (cI, 86, .inl (m_Lexicon_beginWord_w2 k_words k_used k_starts_v))), (k_arities, .inl (cI, 86, .inl k_arities_v)), (k_kinds, .inl (cI, 258, .inl k_kinds_v)), (k_slots, .inl (cI, 256, .inl k_slots_v))] : va_W) := by unfold m_Lexicon_beginWord_w0_5 m_Lexicon_beginWord_w2; simp only [if_pos c_1]
    rw [eW] at hP9 hD9
    exact W.vret hx hb hr (fun t9 ht hW => ⟨⟨(), rfl, trivial, by rw [ht]; exact hP9, va_K.moved hW.alike hK, hD9⟩, hS.F ht⟩) hS.2.2 d_Lexicon_beginWord_34
  · refine lv_aload_n hx hb d_Lexicon_beginWord_11 rfl (lv_at hl 0 rfl) ?_
    refine lv_dup hx hb d_Lexicon_beginWord_12 rfl ?_
    refine va_get (D := (dC, dI)) (ci := 2) (v := .int k_words) (C := R_Lexicon) (T := F_Lexicon) (N := 7) hx hb htt iw_Lexicon hown hK hP 0 rfl rfl 5 (by decide) (htt _ lk_Lexicon_66) (fun _ h9 => h9) rfl d_Lexicon_beginWord_13 ?_
    refine lv_iconst (v := 1) hx hb d_Lexicon_beginWord_16 (by decide) ?_
    refine lv_iadd hx hb d_Lexicon_beginWord_17 ?_
    refine lv_topi (fun x_2 ex_2 => ?_)
    refine va_put (D := (dC, dI)) (ci := 2) (v := .int x_2) (ty := .int) (C := R_Lexicon) (T := F_Lexicon) (N := 7) hx hb htt iw_Lexicon t_Lexicon t_Lexicon_ok n_Lexicon hown hK hP hD hS 0 rfl rfl 5 (by decide) (htt _ lk_Lexicon_66) (fun _ h9 => h9) rfl (by decide +kernel) rfl rfl (Nat.le_of_ble_eq_true rfl) d_Lexicon_beginWord_18 (fun H locs hP hD hS => ?_)
    have hP : va_P (dC, dI) classes [(h0, .inr (2, [.ref k_letters, .ref k_starts, .ref k_arities, .ref k_kinds, .ref k_slots, .int x_2, .int k_used])), (k_letters, .inl (cI, 600, .inl k_letters_v)), (k_starts, .inl (cI, 86, .inl k_starts_v)), (k_arities, .inl (cI, 86, .inl k_arities_v)), (k_kinds, .inl (cI, 258, .inl k_kinds_v)), (k_slots, .inl (cI, 256, .inl k_slots_v))] H := hP
    have hD : va_D A [(h0, .inr (2, [.ref k_letters, .ref k_starts, .ref k_arities, .ref k_kinds, .ref k_slots, .int x_2, .int k_used])), (k_letters, .inl (cI, 600, .inl k_letters_v)), (k_starts, .inl (cI, 86, .inl k_starts_v)), (k_arities, .inl (cI, 86, .inl k_arities_v)), (k_kinds, .inl (cI, 258, .inl k_kinds_v)), (k_slots, .inl (cI, 256, .inl k_slots_v))] := hD
    refine lv_aload_n hx hb d_Lexicon_beginWord_21 rfl (lv_at hl 0 rfl) ?_
    refine va_get (D := (dC, dI)) (ci := 2) (v := .ref k_starts) (C := R_Lexicon) (T := F_Lexicon) (N := 7) hx hb htt iw_Lexicon hown hK hP 0 rfl rfl 1 (by decide) (htt _ lk_Lexicon_15) (fun _ h9 => h9) rfl d_Lexicon_beginWord_22 ?_
    refine lv_aload_n hx hb d_Lexicon_beginWord_25 rfl (lv_at hl 0 rfl) ?_
    refine va_get (D := (dC, dI)) (ci := 2) (v := .int x_2) (C := R_Lexicon) (T := F_Lexicon) (N := 7) hx hb htt iw_Lexicon hown hK hP 0 rfl rfl 5 (by decide) (htt _ lk_Lexicon_66) (fun _ h9 => h9) rfl d_Lexicon_beginWord_26 ?_
    refine lv_aload_n hx hb d_Lexicon_beginWord_29 rfl (lv_at hl 0 rfl) ?_
    refine va_get (D := (dC, dI)) (ci := 2) (v := .int k_used) (C := R_Lexicon) (T := F_Lexicon) (N := 7) hx hb htt iw_Lexicon hown hK hP 0 rfl rfl 6 (by decide) (htt _ lk_Lexicon_70) (fun _ h9 => h9) rfl d_Lexicon_beginWord_30 ?_
    have h_3 : vp_in x_2 86 := by have h8 := c_1; simp only [Int32.lt_iff_toInt_lt, Int32.le_iff_toInt_le, Int32.reduceToInt] at h8; rw [lx_p1 hlx.1.1 (by have := hlx.1.2; omega)] at h8; rw [ex_2]; exact lx_in86 (by rw [lx_p1 hlx.1.1 (by have := hlx.1.2; omega)]; have := hlx.1.1; omega) (by rw [lx_p1 hlx.1.1 (by have := hlx.1.2; omega)]; omega)
    refine va_iast hx hb hK hP hD hS 2 0 rfl rfl h_3 d_Lexicon_beginWord_33 (fun H locs hP hD hS => ?_)
    have hP : va_P (dC, dI) classes [(h0, .inr (2, [.ref k_letters, .ref k_starts, .ref k_arities, .ref k_kinds, .ref k_slots, .int x_2, .int k_used])), (k_letters, .inl (cI, 600, .inl k_letters_v)), (k_starts, .inl (cI, 86, .inl (upd k_starts_v x_2.toNatClampNeg k_used))), (k_arities, .inl (cI, 86, .inl k_arities_v)), (k_kinds, .inl (cI, 258, .inl k_kinds_v)), (k_slots, .inl (cI, 256, .inl k_slots_v))] H := hP
    have hD : va_D A [(h0, .inr (2, [.ref k_letters, .ref k_starts, .ref k_arities, .ref k_kinds, .ref k_slots, .int x_2, .int k_used])), (k_letters, .inl (cI, 600, .inl k_letters_v)), (k_starts, .inl (cI, 86, .inl (upd k_starts_v x_2.toNatClampNeg k_used))), (k_arities, .inl (cI, 86, .inl k_arities_v)), (k_kinds, .inl (cI, 258, .inl k_kinds_v)), (k_slots, .inl (cI, 256, .inl k_slots_v))] := hD
    subst ex_2
    have hP9 := hP.sub (ws' := [(h0, .inr (2, [.ref k_letters, .ref k_starts, .ref k_arities, .ref k_kinds, .ref k_slots, .int ((k_words + 1)), .int k_used])), (k_letters, .inl (cI, 600, .inl k_letters_v)), (k_starts, .inl (cI, 86, .inl (upd k_starts_v (k_words + 1).toNatClampNeg k_used))), (k_arities, .inl (cI, 86, .inl k_arities_v)), (k_kinds, .inl (cI, 258, .inl k_kinds_v)), (k_slots, .inl (cI, 256, .inl k_slots_v))]) [0, 1, 2, 3, 4, 5] rfl
    have hD9 := hD.sub (ws' := [(h0, .inr (2, [.ref k_letters, .ref k_starts, .ref k_arities, .ref k_kinds, .ref k_slots, .int ((k_words + 1)), .int k_used])), (k_letters, .inl (cI, 600, .inl k_letters_v)), (k_starts, .inl (cI, 86, .inl (upd k_starts_v (k_words + 1).toNatClampNeg k_used))), (k_arities, .inl (cI, 86, .inl k_arities_v)), (k_kinds, .inl (cI, 258, .inl k_kinds_v)), (k_slots, .inl (cI, 256, .inl k_slots_v))]) [0, 1, 2, 3, 4, 5] (by decide) rfl
    have eW : [(h0, .inr (2, [.ref k_letters, .ref k_starts, .ref k_arities, .ref k_kinds, .ref k_slots, .int ((k_words + 1)), .int k_used])), (k_letters, .inl (cI, 600, .inl k_letters_v)), (k_starts, .inl (cI, 86, .inl (upd k_starts_v (k_words + 1).toNatClampNeg k_used))), (k_arities, .inl (cI, 86, .inl k_arities_v)), (k_kinds, .inl (cI, 258, .inl k_kinds_v)), (k_slots, .inl (cI, 256, .inl k_slots_v))] = ([(h0, .inr (2, [.ref k_letters, .ref k_starts, .ref k_arities, .ref k_kinds, .ref k_slots, .int (m_Lexicon_beginWord_w0_5 k_words), .int k_used])), (k_letters, .inl (cI, 600, .inl k_letters_v)), (k_starts, .inl (cI, 86, .inl (m_Lexicon_beginWord_w2 k_words k_used k_starts_v))), (k_arities, .inl (cI, 86, .inl k_arities_v)), (k_kinds, .inl (cI, 258, .inl k_kinds_v)), (k_slots, .inl (cI, 256, .inl k_slots_v))] : va_W) := by unfold m_Lexicon_beginWord_w0_5 m_Lexicon_beginWord_w2; simp only [if_neg c_1]
    rw [eW] at hP9 hD9
    exact W.vret hx hb hr (fun t9 ht hW => ⟨⟨(), rfl, trivial, by rw [ht]; exact hP9, va_K.moved hW.alike hK, hD9⟩, hS.F ht⟩) hS.2.2 d_Lexicon_beginWord_34

def m_Lexicon_addLetter_w0_6 (k_used : Int32) : Int32 := if ((600 : Int32)) ≤ k_used then k_used else (k_used + 1)
def m_Lexicon_addLetter_w1 (k_used : Int32) (k_letters_v : Nat → Int32) (b : Int32) : Nat → Int32 := if ((600 : Int32)) ≤ k_used then k_letters_v else upd k_letters_v k_used.toNatClampNeg b
set_option maxHeartbeats 4000000 in
set_option maxRecDepth 100000 in
theorem c_Lexicon_addLetter (l : Launch) (dC : Nat → ClassId) (dI : Nat → Nat → Nat) (sz : Nat) (h0 : Nat) (k_letters : Nat) (k_starts : Nat) (k_arities : Nat) (k_kinds : Nat) (k_slots : Nat) (k_words : Int32) (k_used : Int32) (k_letters_v : Nat → Int32) (k_starts_v : Nat → Int32) (k_arities_v : Nat → Int32) (k_kinds_v : Nat → Int32) (k_slots_v : Nat → Int32) (cI : ClassId) (b : Int32) (hlx : lx_ok k_words k_used k_starts_v k_arities_v k_slots_v) : Met l y_Lexicon_addLetter w_Lexicon_addLetter ({ frames := 0, cells := 0, slots := 0, locals := 0 }) (va_Pc [.ref h0, .int b] (fun U => U.heap.size = sz ∧ va_P (dC, dI) classes [(h0, .inr (2, [.ref k_letters, .ref k_starts, .ref k_arities, .ref k_kinds, .ref k_slots, .int k_words, .int k_used])), (k_letters, .inl (cI, 600, .inl k_letters_v)), (k_starts, .inl (cI, 86, .inl k_starts_v)), (k_arities, .inl (cI, 86, .inl k_arities_v)), (k_kinds, .inl (cI, 258, .inl k_kinds_v)), (k_slots, .inl (cI, 256, .inl k_slots_v))] U.heap ∧ va_K (dC, dI) classes [(cI, .int)] U ∧ va_D (fun _ => True) [(h0, .inr (2, [.ref k_letters, .ref k_starts, .ref k_arities, .ref k_kinds, .ref k_slots, .int k_words, .int k_used])), (k_letters, .inl (cI, 600, .inl k_letters_v)), (k_starts, .inl (cI, 86, .inl k_starts_v)), (k_arities, .inl (cI, 86, .inl k_arities_v)), (k_kinds, .inl (cI, 258, .inl k_kinds_v)), (k_slots, .inl (cI, 256, .inl k_slots_v))])) (va_Qv (fun (_ : Unit) => True) (fun (_ : Unit) t => va_P (dC, dI) classes [(h0, .inr (2, [.ref k_letters, .ref k_starts, .ref k_arities, .ref k_kinds, .ref k_slots, .int k_words, .int (m_Lexicon_addLetter_w0_6 k_used)])), (k_letters, .inl (cI, 600, .inl (m_Lexicon_addLetter_w1 k_used k_letters_v b))), (k_starts, .inl (cI, 86, .inl k_starts_v)), (k_arities, .inl (cI, 86, .inl k_arities_v)), (k_kinds, .inl (cI, 258, .inl k_kinds_v)), (k_slots, .inl (cI, 256, .inl k_slots_v))] t.heap ∧ va_K (dC, dI) classes [(cI, .int)] t ∧ va_D (va_A [(h0, .inr (2, [.ref k_letters, .ref k_starts, .ref k_arities, .ref k_kinds, .ref k_slots, .int k_words, .int k_used])), (k_letters, .inl (cI, 600, .inl k_letters_v)), (k_starts, .inl (cI, 86, .inl k_starts_v)), (k_arities, .inl (cI, 86, .inl k_arities_v)), (k_kinds, .inl (cI, 258, .inl k_kinds_v)), (k_slots, .inl (cI, 256, .inl k_slots_v))] sz) [(h0, .inr (2, [.ref k_letters, .ref k_starts, .ref k_arities, .ref k_kinds, .ref k_slots, .int k_words, .int (m_Lexicon_addLetter_w0_6 k_used)])), (k_letters, .inl (cI, 600, .inl (m_Lexicon_addLetter_w1 k_used k_letters_v b))), (k_starts, .inl (cI, 86, .inl k_starts_v)), (k_arities, .inl (cI, 86, .inl k_arities_v)), (k_kinds, .inl (cI, 258, .inl k_kinds_v)), (k_slots, .inl (cI, 256, .inl k_slots_v))]) (va_A [(h0, .inr (2, [.ref k_letters, .ref k_starts, .ref k_arities, .ref k_kinds, .ref k_slots, .int k_words, .int k_used])), (k_letters, .inl (cI, 600, .inl k_letters_v)), (k_starts, .inl (cI, 86, .inl k_starts_v)), (k_arities, .inl (cI, 86, .inl k_arities_v)), (k_kinds, .inl (cI, 258, .inl k_kinds_v)), (k_slots, .inl (cI, 256, .inl k_slots_v))] sz)) 0 0 (va_A [(h0, .inr (2, [.ref k_letters, .ref k_starts, .ref k_arities, .ref k_kinds, .ref k_slots, .int k_words, .int k_used])), (k_letters, .inl (cI, 600, .inl k_letters_v)), (k_starts, .inl (cI, 86, .inl k_starts_v)), (k_arities, .inl (cI, 86, .inl k_arities_v)), (k_kinds, .inl (cI, 258, .inl k_kinds_v)), (k_slots, .inl (cI, 256, .inl k_slots_v))] sz) := by
  refine Met.ofW (cc := b_Lexicon_addLetter) (maxL := 2) (ret := none) (by decide) rfl ?_
  intro p e s m args below meth c s₁ B hml hv
  obtain ⟨rfl, hsz, hP, hK, hD0⟩ := hv
  have hx := B.exec
  have hb := B.bytes
  have hr := B.returns
  have hts := atoms_spec (ws := w_Lexicon_addLetter) B.pre
  have htt : ∀ w ∈ tw_T, w.before _ s = true := fun w h => hts w (List.mem_cons_of_mem _ h)
  have hown : s.vm.findClass R_Lexicon = some m.cls := findClass_of_methodNamed B.named
  have hlocks := B.notSynchronized
  subst hsz
  have hD := hD0.self (sz := s.heap.size)
  generalize hAe : va_A [(h0, .inr (2, [.ref k_letters, .ref k_starts, .ref k_arities, .ref k_kinds, .ref k_slots, .int k_words, .int k_used])), (k_letters, .inl (cI, 600, .inl k_letters_v)), (k_starts, .inl (cI, 86, .inl k_starts_v)), (k_arities, .inl (cI, 86, .inl k_arities_v)), (k_kinds, .inl (cI, 258, .inl k_kinds_v)), (k_slots, .inl (cI, 256, .inl k_slots_v))] s.heap.size = A at hD ⊢
  have hA : ∀ q : Nat, s.heap.size ≤ q → A q := fun q h => by rw [← hAe]; exact Or.inr h
  have hS : va_S A s.heap s.heap [] := va_S.rf
  have hP : va_P (dC, dI) classes [(h0, .inr (2, [.ref k_letters, .ref k_starts, .ref k_arities, .ref k_kinds, .ref k_slots, .int k_words, .int k_used])), (k_letters, .inl (cI, 600, .inl k_letters_v)), (k_starts, .inl (cI, 86, .inl k_starts_v)), (k_arities, .inl (cI, 86, .inl k_arities_v)), (k_kinds, .inl (cI, 258, .inl k_kinds_v)), (k_slots, .inl (cI, 256, .inl k_slots_v))] s.heap := hP
  have hl := lv_entry ([.ref h0, .int b]) (n := 2) (Nat.le_of_ble_eq_true rfl)
  rw [lg_entry_eq]
  generalize (lg_sl ([.ref h0, .int b]) ++ List.replicate (2 - (lg_sl ([.ref h0, .int b])).length) Slot.unset).toArray = ls at hl ⊢
  have hl : lv_has ls 2 [(0, .ref h0), (1, .int b)] := hl
  refine lv_aload_n hx hb d_Lexicon_addLetter_0 rfl (lv_at hl 0 rfl) ?_
  refine va_get (D := (dC, dI)) (ci := 2) (v := .int k_used) (C := R_Lexicon) (T := F_Lexicon) (N := 7) hx hb htt iw_Lexicon hown hK hP 0 rfl rfl 6 (by decide) (htt _ lk_Lexicon_70) (fun _ h9 => h9) rfl d_Lexicon_addLetter_1 ?_
  refine lv_sipush (v := 600) hx hb d_Lexicon_addLetter_4 (by decide) ?_
  refine lv_icmp_ge (tgt := 30) hx hb d_Lexicon_addLetter_7 (by decide) (fun c_1 => ?_) (fun c_1 => ?_)
  · have hP9 := hP.sub (ws' := [(h0, .inr (2, [.ref k_letters, .ref k_starts, .ref k_arities, .ref k_kinds, .ref k_slots, .int k_words, .int k_used])), (k_letters, .inl (cI, 600, .inl k_letters_v)), (k_starts, .inl (cI, 86, .inl k_starts_v)), (k_arities, .inl (cI, 86, .inl k_arities_v)), (k_kinds, .inl (cI, 258, .inl k_kinds_v)), (k_slots, .inl (cI, 256, .inl k_slots_v))]) [0, 1, 2, 3, 4, 5] rfl
    have hD9 := hD.sub (ws' := [(h0, .inr (2, [.ref k_letters, .ref k_starts, .ref k_arities, .ref k_kinds, .ref k_slots, .int k_words, .int k_used])), (k_letters, .inl (cI, 600, .inl k_letters_v)), (k_starts, .inl (cI, 86, .inl k_starts_v)), (k_arities, .inl (cI, 86, .inl k_arities_v)), (k_kinds, .inl (cI, 258, .inl k_kinds_v)), (k_slots, .inl (cI, 256, .inl k_slots_v))]) [0, 1, 2, 3, 4, 5] (by decide) rfl
    have eW : [(h0, .inr (2, [.ref k_letters, .ref k_starts, .ref k_arities, .ref k_kinds, .ref k_slots, .int k_words, .int k_used])), (k_letters, .inl (cI, 600, .inl k_letters_v)), (k_starts, .inl (cI, 86, .inl k_starts_v)), (k_arities, .inl (cI, 86, .inl k_arities_v)), (k_kinds, .inl (cI, 258, .inl k_kinds_v)), (k_slots, .inl (cI, 256, .inl k_slots_v))] = ([(h0, .inr (2, [.ref k_letters, .ref k_starts, .ref k_arities, .ref k_kinds, .ref k_slots, .int k_words, .int (m_Lexicon_addLetter_w0_6 k_used)])), (k_letters, .inl (cI, 600, .inl (m_Lexicon_addLetter_w1 k_used k_letters_v b))), (k_starts, .inl (cI, 86, .inl k_starts_v)), (k_arities, .inl (cI, 86, .inl k_arities_v)), (k_kinds, .inl (cI, 258, .inl k_kinds_v)), (k_slots, .inl (cI, 256, .inl k_slots_v))] : va_W) := by unfold m_Lexicon_addLetter_w0_6 m_Lexicon_addLetter_w1; simp only [if_pos c_1]
    rw [eW] at hP9 hD9
    exact W.vret hx hb hr (fun t9 ht hW => ⟨⟨(), rfl, trivial, by rw [ht]; exact hP9, va_K.moved hW.alike hK, hD9⟩, hS.F ht⟩) hS.2.2 d_Lexicon_addLetter_30
  · refine lv_aload_n hx hb d_Lexicon_addLetter_10 rfl (lv_at hl 0 rfl) ?_
    refine va_get (D := (dC, dI)) (ci := 2) (v := .ref k_letters) (C := R_Lexicon) (T := F_Lexicon) (N := 7) hx hb htt iw_Lexicon hown hK hP 0 rfl rfl 0 (by decide) (htt _ lk_Lexicon_11) (fun _ h9 => h9) rfl d_Lexicon_addLetter_11 ?_
    refine lv_aload_n hx hb d_Lexicon_addLetter_14 rfl (lv_at hl 0 rfl) ?_
    refine va_get (D := (dC, dI)) (ci := 2) (v := .int k_used) (C := R_Lexicon) (T := F_Lexicon) (N := 7) hx hb htt iw_Lexicon hown hK hP 0 rfl rfl 6 (by decide) (htt _ lk_Lexicon_70) (fun _ h9 => h9) rfl d_Lexicon_addLetter_15 ?_
    refine lv_iload_n hx hb d_Lexicon_addLetter_18 rfl (lv_at hl 1 rfl) ?_
    have h_2 : vp_in k_used 600 := by have h8 := c_1; have h9 := hlx.2.1; simp only [Int32.lt_iff_toInt_lt, Int32.le_iff_toInt_le, Int32.reduceToInt] at h8; rw [vp_in_iff]; omega
    refine va_iast hx hb hK hP hD hS 1 0 rfl rfl h_2 d_Lexicon_addLetter_19 (fun H locs hP hD hS => ?_)
    have hP : va_P (dC, dI) classes [(h0, .inr (2, [.ref k_letters, .ref k_starts, .ref k_arities, .ref k_kinds, .ref k_slots, .int k_words, .int k_used])), (k_letters, .inl (cI, 600, .inl (upd k_letters_v k_used.toNatClampNeg b))), (k_starts, .inl (cI, 86, .inl k_starts_v)), (k_arities, .inl (cI, 86, .inl k_arities_v)), (k_kinds, .inl (cI, 258, .inl k_kinds_v)), (k_slots, .inl (cI, 256, .inl k_slots_v))] H := hP
    have hD : va_D A [(h0, .inr (2, [.ref k_letters, .ref k_starts, .ref k_arities, .ref k_kinds, .ref k_slots, .int k_words, .int k_used])), (k_letters, .inl (cI, 600, .inl (upd k_letters_v k_used.toNatClampNeg b))), (k_starts, .inl (cI, 86, .inl k_starts_v)), (k_arities, .inl (cI, 86, .inl k_arities_v)), (k_kinds, .inl (cI, 258, .inl k_kinds_v)), (k_slots, .inl (cI, 256, .inl k_slots_v))] := hD
    refine lv_aload_n hx hb d_Lexicon_addLetter_20 rfl (lv_at hl 0 rfl) ?_
    refine lv_dup hx hb d_Lexicon_addLetter_21 rfl ?_
    refine va_get (D := (dC, dI)) (ci := 2) (v := .int k_used) (C := R_Lexicon) (T := F_Lexicon) (N := 7) hx hb htt iw_Lexicon hown hK hP 0 rfl rfl 6 (by decide) (htt _ lk_Lexicon_70) (fun _ h9 => h9) rfl d_Lexicon_addLetter_22 ?_
    refine lv_iconst (v := 1) hx hb d_Lexicon_addLetter_25 (by decide) ?_
    refine lv_iadd hx hb d_Lexicon_addLetter_26 ?_
    refine lv_topi (fun x_3 ex_3 => ?_)
    refine va_put (D := (dC, dI)) (ci := 2) (v := .int x_3) (ty := .int) (C := R_Lexicon) (T := F_Lexicon) (N := 7) hx hb htt iw_Lexicon t_Lexicon t_Lexicon_ok n_Lexicon hown hK hP hD hS 0 rfl rfl 6 (by decide) (htt _ lk_Lexicon_70) (fun _ h9 => h9) rfl (by decide +kernel) rfl rfl (Nat.le_of_ble_eq_true rfl) d_Lexicon_addLetter_27 (fun H locs hP hD hS => ?_)
    have hP : va_P (dC, dI) classes [(h0, .inr (2, [.ref k_letters, .ref k_starts, .ref k_arities, .ref k_kinds, .ref k_slots, .int k_words, .int x_3])), (k_letters, .inl (cI, 600, .inl (upd k_letters_v k_used.toNatClampNeg b))), (k_starts, .inl (cI, 86, .inl k_starts_v)), (k_arities, .inl (cI, 86, .inl k_arities_v)), (k_kinds, .inl (cI, 258, .inl k_kinds_v)), (k_slots, .inl (cI, 256, .inl k_slots_v))] H := hP
    have hD : va_D A [(h0, .inr (2, [.ref k_letters, .ref k_starts, .ref k_arities, .ref k_kinds, .ref k_slots, .int k_words, .int x_3])), (k_letters, .inl (cI, 600, .inl (upd k_letters_v k_used.toNatClampNeg b))), (k_starts, .inl (cI, 86, .inl k_starts_v)), (k_arities, .inl (cI, 86, .inl k_arities_v)), (k_kinds, .inl (cI, 258, .inl k_kinds_v)), (k_slots, .inl (cI, 256, .inl k_slots_v))] := hD
    subst ex_3
    have hP9 := hP.sub (ws' := [(h0, .inr (2, [.ref k_letters, .ref k_starts, .ref k_arities, .ref k_kinds, .ref k_slots, .int k_words, .int ((k_used + 1))])), (k_letters, .inl (cI, 600, .inl (upd k_letters_v k_used.toNatClampNeg b))), (k_starts, .inl (cI, 86, .inl k_starts_v)), (k_arities, .inl (cI, 86, .inl k_arities_v)), (k_kinds, .inl (cI, 258, .inl k_kinds_v)), (k_slots, .inl (cI, 256, .inl k_slots_v))]) [0, 1, 2, 3, 4, 5] rfl
    have hD9 := hD.sub (ws' := [(h0, .inr (2, [.ref k_letters, .ref k_starts, .ref k_arities, .ref k_kinds, .ref k_slots, .int k_words, .int ((k_used + 1))])), (k_letters, .inl (cI, 600, .inl (upd k_letters_v k_used.toNatClampNeg b))), (k_starts, .inl (cI, 86, .inl k_starts_v)), (k_arities, .inl (cI, 86, .inl k_arities_v)), (k_kinds, .inl (cI, 258, .inl k_kinds_v)), (k_slots, .inl (cI, 256, .inl k_slots_v))]) [0, 1, 2, 3, 4, 5] (by decide) rfl
    have eW : [(h0, .inr (2, [.ref k_letters, .ref k_starts, .ref k_arities, .ref k_kinds, .ref k_slots, .int k_words, .int ((k_used + 1))])), (k_letters, .inl (cI, 600, .inl (upd k_letters_v k_used.toNatClampNeg b))), (k_starts, .inl (cI, 86, .inl k_starts_v)), (k_arities, .inl (cI, 86, .inl k_arities_v)), (k_kinds, .inl (cI, 258, .inl k_kinds_v)), (k_slots, .inl (cI, 256, .inl k_slots_v))] = ([(h0, .inr (2, [.ref k_letters, .ref k_starts, .ref k_arities, .ref k_kinds, .ref k_slots, .int k_words, .int (m_Lexicon_addLetter_w0_6 k_used)])), (k_letters, .inl (cI, 600, .inl (m_Lexicon_addLetter_w1 k_used k_letters_v b))), (k_starts, .inl (cI, 86, .inl k_starts_v)), (k_arities, .inl (cI, 86, .inl k_arities_v)), (k_kinds, .inl (cI, 258, .inl k_kinds_v)), (k_slots, .inl (cI, 256, .inl k_slots_v))] : va_W) := by unfold m_Lexicon_addLetter_w0_6 m_Lexicon_addLetter_w1; simp only [if_neg c_1]
    rw [eW] at hP9 hD9
    exact W.vret hx hb hr (fun t9 ht hW => ⟨⟨(), rfl, trivial, by rw [ht]; exact hP9, va_K.moved hW.alike hK, hD9⟩, hS.F ht⟩) hS.2.2 d_Lexicon_addLetter_30

def m_Lexicon_addKind_w3 (k_words : Int32) (k_arities_v : Nat → Int32) : Nat → Int32 := if ((3 : Int32)) ≤ (k_arities_v k_words.toNatClampNeg) then k_arities_v else upd k_arities_v k_words.toNatClampNeg ((k_arities_v k_words.toNatClampNeg) + 1)
def m_Lexicon_addKind_w4 (k_words : Int32) (k_arities_v : Nat → Int32) (k_kinds_v : Nat → Int32) (b : Int32) : Nat → Int32 := if ((3 : Int32)) ≤ (k_arities_v k_words.toNatClampNeg) then k_kinds_v else upd k_kinds_v ((k_words * 3) + (k_arities_v k_words.toNatClampNeg)).toNatClampNeg b
set_option maxHeartbeats 4000000 in
set_option maxRecDepth 100000 in
theorem c_Lexicon_addKind (l : Launch) (dC : Nat → ClassId) (dI : Nat → Nat → Nat) (sz : Nat) (h0 : Nat) (k_letters : Nat) (k_starts : Nat) (k_arities : Nat) (k_kinds : Nat) (k_slots : Nat) (k_words : Int32) (k_used : Int32) (k_letters_v : Nat → Int32) (k_starts_v : Nat → Int32) (k_arities_v : Nat → Int32) (k_kinds_v : Nat → Int32) (k_slots_v : Nat → Int32) (cI : ClassId) (b : Int32) (hlx : lx_ok k_words k_used k_starts_v k_arities_v k_slots_v) : Met l y_Lexicon_addKind w_Lexicon_addKind ({ frames := 0, cells := 0, slots := 0, locals := 0 }) (va_Pc [.ref h0, .int b] (fun U => U.heap.size = sz ∧ va_P (dC, dI) classes [(h0, .inr (2, [.ref k_letters, .ref k_starts, .ref k_arities, .ref k_kinds, .ref k_slots, .int k_words, .int k_used])), (k_letters, .inl (cI, 600, .inl k_letters_v)), (k_starts, .inl (cI, 86, .inl k_starts_v)), (k_arities, .inl (cI, 86, .inl k_arities_v)), (k_kinds, .inl (cI, 258, .inl k_kinds_v)), (k_slots, .inl (cI, 256, .inl k_slots_v))] U.heap ∧ va_K (dC, dI) classes [(cI, .int)] U ∧ va_D (fun _ => True) [(h0, .inr (2, [.ref k_letters, .ref k_starts, .ref k_arities, .ref k_kinds, .ref k_slots, .int k_words, .int k_used])), (k_letters, .inl (cI, 600, .inl k_letters_v)), (k_starts, .inl (cI, 86, .inl k_starts_v)), (k_arities, .inl (cI, 86, .inl k_arities_v)), (k_kinds, .inl (cI, 258, .inl k_kinds_v)), (k_slots, .inl (cI, 256, .inl k_slots_v))])) (va_Qv (fun (_ : Unit) => True) (fun (_ : Unit) t => va_P (dC, dI) classes [(h0, .inr (2, [.ref k_letters, .ref k_starts, .ref k_arities, .ref k_kinds, .ref k_slots, .int k_words, .int k_used])), (k_letters, .inl (cI, 600, .inl k_letters_v)), (k_starts, .inl (cI, 86, .inl k_starts_v)), (k_arities, .inl (cI, 86, .inl (m_Lexicon_addKind_w3 k_words k_arities_v))), (k_kinds, .inl (cI, 258, .inl (m_Lexicon_addKind_w4 k_words k_arities_v k_kinds_v b))), (k_slots, .inl (cI, 256, .inl k_slots_v))] t.heap ∧ va_K (dC, dI) classes [(cI, .int)] t ∧ va_D (va_A [(h0, .inr (2, [.ref k_letters, .ref k_starts, .ref k_arities, .ref k_kinds, .ref k_slots, .int k_words, .int k_used])), (k_letters, .inl (cI, 600, .inl k_letters_v)), (k_starts, .inl (cI, 86, .inl k_starts_v)), (k_arities, .inl (cI, 86, .inl k_arities_v)), (k_kinds, .inl (cI, 258, .inl k_kinds_v)), (k_slots, .inl (cI, 256, .inl k_slots_v))] sz) [(h0, .inr (2, [.ref k_letters, .ref k_starts, .ref k_arities, .ref k_kinds, .ref k_slots, .int k_words, .int k_used])), (k_letters, .inl (cI, 600, .inl k_letters_v)), (k_starts, .inl (cI, 86, .inl k_starts_v)), (k_arities, .inl (cI, 86, .inl (m_Lexicon_addKind_w3 k_words k_arities_v))), (k_kinds, .inl (cI, 258, .inl (m_Lexicon_addKind_w4 k_words k_arities_v k_kinds_v b))), (k_slots, .inl (cI, 256, .inl k_slots_v))]) (va_A [(h0, .inr (2, [.ref k_letters, .ref k_starts, .ref k_arities, .ref k_kinds, .ref k_slots, .int k_words, .int k_used])), (k_letters, .inl (cI, 600, .inl k_letters_v)), (k_starts, .inl (cI, 86, .inl k_starts_v)), (k_arities, .inl (cI, 86, .inl k_arities_v)), (k_kinds, .inl (cI, 258, .inl k_kinds_v)), (k_slots, .inl (cI, 256, .inl k_slots_v))] sz)) 0 0 (va_A [(h0, .inr (2, [.ref k_letters, .ref k_starts, .ref k_arities, .ref k_kinds, .ref k_slots, .int k_words, .int k_used])), (k_letters, .inl (cI, 600, .inl k_letters_v)), (k_starts, .inl (cI, 86, .inl k_starts_v)), (k_arities, .inl (cI, 86, .inl k_arities_v)), (k_kinds, .inl (cI, 258, .inl k_kinds_v)), (k_slots, .inl (cI, 256, .inl k_slots_v))] sz) := by
  refine Met.ofW (cc := b_Lexicon_addKind) (maxL := 3) (ret := none) (by decide) rfl ?_
  intro p e s m args below meth c s₁ B hml hv
  obtain ⟨rfl, hsz, hP, hK, hD0⟩ := hv
  have hx := B.exec
  have hb := B.bytes
  have hr := B.returns
  have hts := atoms_spec (ws := w_Lexicon_addKind) B.pre
  have htt : ∀ w ∈ tw_T, w.before _ s = true := fun w h => hts w (List.mem_cons_of_mem _ h)
  have hown : s.vm.findClass R_Lexicon = some m.cls := findClass_of_methodNamed B.named
  have hlocks := B.notSynchronized
  subst hsz
  have hD := hD0.self (sz := s.heap.size)
  generalize hAe : va_A [(h0, .inr (2, [.ref k_letters, .ref k_starts, .ref k_arities, .ref k_kinds, .ref k_slots, .int k_words, .int k_used])), (k_letters, .inl (cI, 600, .inl k_letters_v)), (k_starts, .inl (cI, 86, .inl k_starts_v)), (k_arities, .inl (cI, 86, .inl k_arities_v)), (k_kinds, .inl (cI, 258, .inl k_kinds_v)), (k_slots, .inl (cI, 256, .inl k_slots_v))] s.heap.size = A at hD ⊢
  have hA : ∀ q : Nat, s.heap.size ≤ q → A q := fun q h => by rw [← hAe]; exact Or.inr h
  have hS : va_S A s.heap s.heap [] := va_S.rf
  have hP : va_P (dC, dI) classes [(h0, .inr (2, [.ref k_letters, .ref k_starts, .ref k_arities, .ref k_kinds, .ref k_slots, .int k_words, .int k_used])), (k_letters, .inl (cI, 600, .inl k_letters_v)), (k_starts, .inl (cI, 86, .inl k_starts_v)), (k_arities, .inl (cI, 86, .inl k_arities_v)), (k_kinds, .inl (cI, 258, .inl k_kinds_v)), (k_slots, .inl (cI, 256, .inl k_slots_v))] s.heap := hP
  have hl := lv_entry ([.ref h0, .int b]) (n := 3) (Nat.le_of_ble_eq_true rfl)
  rw [lg_entry_eq]
  generalize (lg_sl ([.ref h0, .int b]) ++ List.replicate (3 - (lg_sl ([.ref h0, .int b])).length) Slot.unset).toArray = ls at hl ⊢
  have hl : lv_has ls 3 [(0, .ref h0), (1, .int b)] := hl
  refine lv_aload_n hx hb d_Lexicon_addKind_0 rfl (lv_at hl 0 rfl) ?_
  refine va_get (D := (dC, dI)) (ci := 2) (v := .ref k_arities) (C := R_Lexicon) (T := F_Lexicon) (N := 7) hx hb htt iw_Lexicon hown hK hP 0 rfl rfl 2 (by decide) (htt _ lk_Lexicon_18) (fun _ h9 => h9) rfl d_Lexicon_addKind_1 ?_
  refine lv_aload_n hx hb d_Lexicon_addKind_4 rfl (lv_at hl 0 rfl) ?_
  refine va_get (D := (dC, dI)) (ci := 2) (v := .int k_words) (C := R_Lexicon) (T := F_Lexicon) (N := 7) hx hb htt iw_Lexicon hown hK hP 0 rfl rfl 5 (by decide) (htt _ lk_Lexicon_66) (fun _ h9 => h9) rfl d_Lexicon_addKind_5 ?_
  have h_1 : vp_in k_words 86 := lx_in86 hlx.1.1 hlx.1.2
  refine va_iald hx hb hK hP 3 0 rfl rfl h_1 d_Lexicon_addKind_8 ?_
  refine lv_topi (fun x_2 ex_2 => ?_)
  refine lv_istore_n (lv' := [(2, .int x_2), (0, .ref h0), (1, .int b)]) hx hb d_Lexicon_addKind_9 rfl hl (by decide) rfl (fun ls hl => ?_)
  refine lv_iload_n hx hb d_Lexicon_addKind_10 rfl (lv_at hl 0 rfl) ?_
  refine lv_iconst (v := 3) hx hb d_Lexicon_addKind_11 (by decide) ?_
  refine lv_icmp_ge (tgt := 41) hx hb d_Lexicon_addKind_12 (by decide) (fun c_3 => ?_) (fun c_3 => ?_)
  · subst ex_2
    have hP9 := hP.sub (ws' := [(h0, .inr (2, [.ref k_letters, .ref k_starts, .ref k_arities, .ref k_kinds, .ref k_slots, .int k_words, .int k_used])), (k_letters, .inl (cI, 600, .inl k_letters_v)), (k_starts, .inl (cI, 86, .inl k_starts_v)), (k_arities, .inl (cI, 86, .inl k_arities_v)), (k_kinds, .inl (cI, 258, .inl k_kinds_v)), (k_slots, .inl (cI, 256, .inl k_slots_v))]) [0, 1, 2, 3, 4, 5] rfl
    have hD9 := hD.sub (ws' := [(h0, .inr (2, [.ref k_letters, .ref k_starts, .ref k_arities, .ref k_kinds, .ref k_slots, .int k_words, .int k_used])), (k_letters, .inl (cI, 600, .inl k_letters_v)), (k_starts, .inl (cI, 86, .inl k_starts_v)), (k_arities, .inl (cI, 86, .inl k_arities_v)), (k_kinds, .inl (cI, 258, .inl k_kinds_v)), (k_slots, .inl (cI, 256, .inl k_slots_v))]) [0, 1, 2, 3, 4, 5] (by decide) rfl
    have eW : [(h0, .inr (2, [.ref k_letters, .ref k_starts, .ref k_arities, .ref k_kinds, .ref k_slots, .int k_words, .int k_used])), (k_letters, .inl (cI, 600, .inl k_letters_v)), (k_starts, .inl (cI, 86, .inl k_starts_v)), (k_arities, .inl (cI, 86, .inl k_arities_v)), (k_kinds, .inl (cI, 258, .inl k_kinds_v)), (k_slots, .inl (cI, 256, .inl k_slots_v))] = ([(h0, .inr (2, [.ref k_letters, .ref k_starts, .ref k_arities, .ref k_kinds, .ref k_slots, .int k_words, .int k_used])), (k_letters, .inl (cI, 600, .inl k_letters_v)), (k_starts, .inl (cI, 86, .inl k_starts_v)), (k_arities, .inl (cI, 86, .inl (m_Lexicon_addKind_w3 k_words k_arities_v))), (k_kinds, .inl (cI, 258, .inl (m_Lexicon_addKind_w4 k_words k_arities_v k_kinds_v b))), (k_slots, .inl (cI, 256, .inl k_slots_v))] : va_W) := by unfold m_Lexicon_addKind_w3 m_Lexicon_addKind_w4; simp only [if_pos c_3]
    rw [eW] at hP9 hD9
    exact W.vret hx hb hr (fun t9 ht hW => ⟨⟨(), rfl, trivial, by rw [ht]; exact hP9, va_K.moved hW.alike hK, hD9⟩, hS.F ht⟩) hS.2.2 d_Lexicon_addKind_41
  · refine lv_aload_n hx hb d_Lexicon_addKind_15 rfl (lv_at hl 1 rfl) ?_
    refine va_get (D := (dC, dI)) (ci := 2) (v := .ref k_kinds) (C := R_Lexicon) (T := F_Lexicon) (N := 7) hx hb htt iw_Lexicon hown hK hP 0 rfl rfl 3 (by decide) (htt _ lk_Lexicon_21) (fun _ h9 => h9) rfl d_Lexicon_addKind_16 ?_
    refine lv_aload_n hx hb d_Lexicon_addKind_19 rfl (lv_at hl 1 rfl) ?_
    refine va_get (D := (dC, dI)) (ci := 2) (v := .int k_words) (C := R_Lexicon) (T := F_Lexicon) (N := 7) hx hb htt iw_Lexicon hown hK hP 0 rfl rfl 5 (by decide) (htt _ lk_Lexicon_66) (fun _ h9 => h9) rfl d_Lexicon_addKind_20 ?_
    refine lv_iconst (v := 3) hx hb d_Lexicon_addKind_23 (by decide) ?_
    refine lv_imul hx hb d_Lexicon_addKind_24 ?_
    refine lv_iload_n hx hb d_Lexicon_addKind_25 rfl (lv_at hl 0 rfl) ?_
    refine lv_iadd hx hb d_Lexicon_addKind_26 ?_
    refine lv_iload_n hx hb d_Lexicon_addKind_27 rfl (lv_at hl 2 rfl) ?_
    have h_4 : vp_in ((k_words * 3) + x_2) 258 := by have h8 := c_3; rw [ex_2] at h8 ⊢; exact lx_kd hlx.1.1 hlx.1.2 (hlx.2.2.2.1 _) h8
    refine va_iast hx hb hK hP hD hS 4 0 rfl rfl h_4 d_Lexicon_addKind_28 (fun H locs hP hD hS => ?_)
    have hP : va_P (dC, dI) classes [(h0, .inr (2, [.ref k_letters, .ref k_starts, .ref k_arities, .ref k_kinds, .ref k_slots, .int k_words, .int k_used])), (k_letters, .inl (cI, 600, .inl k_letters_v)), (k_starts, .inl (cI, 86, .inl k_starts_v)), (k_arities, .inl (cI, 86, .inl k_arities_v)), (k_kinds, .inl (cI, 258, .inl (upd k_kinds_v ((k_words * 3) + x_2).toNatClampNeg b))), (k_slots, .inl (cI, 256, .inl k_slots_v))] H := hP
    have hD : va_D A [(h0, .inr (2, [.ref k_letters, .ref k_starts, .ref k_arities, .ref k_kinds, .ref k_slots, .int k_words, .int k_used])), (k_letters, .inl (cI, 600, .inl k_letters_v)), (k_starts, .inl (cI, 86, .inl k_starts_v)), (k_arities, .inl (cI, 86, .inl k_arities_v)), (k_kinds, .inl (cI, 258, .inl (upd k_kinds_v ((k_words * 3) + x_2).toNatClampNeg b))), (k_slots, .inl (cI, 256, .inl k_slots_v))] := hD
    refine lv_aload_n hx hb d_Lexicon_addKind_29 rfl (lv_at hl 1 rfl) ?_
    refine va_get (D := (dC, dI)) (ci := 2) (v := .ref k_arities) (C := R_Lexicon) (T := F_Lexicon) (N := 7) hx hb htt iw_Lexicon hown hK hP 0 rfl rfl 2 (by decide) (htt _ lk_Lexicon_18) (fun _ h9 => h9) rfl d_Lexicon_addKind_30 ?_
    refine lv_aload_n hx hb d_Lexicon_addKind_33 rfl (lv_at hl 1 rfl) ?_
    refine va_get (D := (dC, dI)) (ci := 2) (v := .int k_words) (C := R_Lexicon) (T := F_Lexicon) (N := 7) hx hb htt iw_Lexicon hown hK hP 0 rfl rfl 5 (by decide) (htt _ lk_Lexicon_66) (fun _ h9 => h9) rfl d_Lexicon_addKind_34 ?_
    refine lv_iload_n hx hb d_Lexicon_addKind_37 rfl (lv_at hl 0 rfl) ?_
    refine lv_iconst (v := 1) hx hb d_Lexicon_addKind_38 (by decide) ?_
    refine lv_iadd hx hb d_Lexicon_addKind_39 ?_
    have h_5 : vp_in k_words 86 := lx_in86 hlx.1.1 hlx.1.2
    refine va_iast hx hb hK hP hD hS 3 0 rfl rfl h_5 d_Lexicon_addKind_40 (fun H locs hP hD hS => ?_)
    have hP : va_P (dC, dI) classes [(h0, .inr (2, [.ref k_letters, .ref k_starts, .ref k_arities, .ref k_kinds, .ref k_slots, .int k_words, .int k_used])), (k_letters, .inl (cI, 600, .inl k_letters_v)), (k_starts, .inl (cI, 86, .inl k_starts_v)), (k_arities, .inl (cI, 86, .inl (upd k_arities_v k_words.toNatClampNeg (x_2 + 1)))), (k_kinds, .inl (cI, 258, .inl (upd k_kinds_v ((k_words * 3) + x_2).toNatClampNeg b))), (k_slots, .inl (cI, 256, .inl k_slots_v))] H := hP
    have hD : va_D A [(h0, .inr (2, [.ref k_letters, .ref k_starts, .ref k_arities, .ref k_kinds, .ref k_slots, .int k_words, .int k_used])), (k_letters, .inl (cI, 600, .inl k_letters_v)), (k_starts, .inl (cI, 86, .inl k_starts_v)), (k_arities, .inl (cI, 86, .inl (upd k_arities_v k_words.toNatClampNeg (x_2 + 1)))), (k_kinds, .inl (cI, 258, .inl (upd k_kinds_v ((k_words * 3) + x_2).toNatClampNeg b))), (k_slots, .inl (cI, 256, .inl k_slots_v))] := hD
    subst ex_2
    have hP9 := hP.sub (ws' := [(h0, .inr (2, [.ref k_letters, .ref k_starts, .ref k_arities, .ref k_kinds, .ref k_slots, .int k_words, .int k_used])), (k_letters, .inl (cI, 600, .inl k_letters_v)), (k_starts, .inl (cI, 86, .inl k_starts_v)), (k_arities, .inl (cI, 86, .inl (upd k_arities_v k_words.toNatClampNeg ((k_arities_v k_words.toNatClampNeg) + 1)))), (k_kinds, .inl (cI, 258, .inl (upd k_kinds_v ((k_words * 3) + (k_arities_v k_words.toNatClampNeg)).toNatClampNeg b))), (k_slots, .inl (cI, 256, .inl k_slots_v))]) [0, 1, 2, 3, 4, 5] rfl
    have hD9 := hD.sub (ws' := [(h0, .inr (2, [.ref k_letters, .ref k_starts, .ref k_arities, .ref k_kinds, .ref k_slots, .int k_words, .int k_used])), (k_letters, .inl (cI, 600, .inl k_letters_v)), (k_starts, .inl (cI, 86, .inl k_starts_v)), (k_arities, .inl (cI, 86, .inl (upd k_arities_v k_words.toNatClampNeg ((k_arities_v k_words.toNatClampNeg) + 1)))), (k_kinds, .inl (cI, 258, .inl (upd k_kinds_v ((k_words * 3) + (k_arities_v k_words.toNatClampNeg)).toNatClampNeg b))), (k_slots, .inl (cI, 256, .inl k_slots_v))]) [0, 1, 2, 3, 4, 5] (by decide) rfl
    have eW : [(h0, .inr (2, [.ref k_letters, .ref k_starts, .ref k_arities, .ref k_kinds, .ref k_slots, .int k_words, .int k_used])), (k_letters, .inl (cI, 600, .inl k_letters_v)), (k_starts, .inl (cI, 86, .inl k_starts_v)), (k_arities, .inl (cI, 86, .inl (upd k_arities_v k_words.toNatClampNeg ((k_arities_v k_words.toNatClampNeg) + 1)))), (k_kinds, .inl (cI, 258, .inl (upd k_kinds_v ((k_words * 3) + (k_arities_v k_words.toNatClampNeg)).toNatClampNeg b))), (k_slots, .inl (cI, 256, .inl k_slots_v))] = ([(h0, .inr (2, [.ref k_letters, .ref k_starts, .ref k_arities, .ref k_kinds, .ref k_slots, .int k_words, .int k_used])), (k_letters, .inl (cI, 600, .inl k_letters_v)), (k_starts, .inl (cI, 86, .inl k_starts_v)), (k_arities, .inl (cI, 86, .inl (m_Lexicon_addKind_w3 k_words k_arities_v))), (k_kinds, .inl (cI, 258, .inl (m_Lexicon_addKind_w4 k_words k_arities_v k_kinds_v b))), (k_slots, .inl (cI, 256, .inl k_slots_v))] : va_W) := by unfold m_Lexicon_addKind_w3 m_Lexicon_addKind_w4; simp only [if_neg c_3]
    rw [eW] at hP9 hD9
    exact W.vret hx hb hr (fun t9 ht hW => ⟨⟨(), rfl, trivial, by rw [ht]; exact hP9, va_K.moved hW.alike hK, hD9⟩, hS.F ht⟩) hS.2.2 d_Lexicon_addKind_41
