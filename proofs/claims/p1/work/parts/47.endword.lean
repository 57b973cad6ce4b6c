theorem d_Lexicon_endWord_0 : decode b_Lexicon_endWord 0 = .ok (.aload_n 0, 1) := by decide +kernel
theorem d_Lexicon_endWord_1 : decode b_Lexicon_endWord 1 = .ok (.iconst 0, 1) := by decide +kernel
theorem d_Lexicon_endWord_2 : decode b_Lexicon_endWord 2 = .ok (.invokevirtual 63, 3) := by decide +kernel
theorem d_Lexicon_endWord_5 : decode b_Lexicon_endWord 5 = .ok (.aload_n 0, 1) := by decide +kernel
theorem d_Lexicon_endWord_6 : decode b_Lexicon_endWord 6 = .ok (.getfield 11, 3) := by decide +kernel
theorem d_Lexicon_endWord_9 : decode b_Lexicon_endWord 9 = .ok (.aload_n 0, 1) := by decide +kernel
theorem d_Lexicon_endWord_10 : decode b_Lexicon_endWord 10 = .ok (.getfield 15, 3) := by decide +kernel
theorem d_Lexicon_endWord_13 : decode b_Lexicon_endWord 13 = .ok (.aload_n 0, 1) := by decide +kernel
theorem d_Lexicon_endWord_14 : decode b_Lexicon_endWord 14 = .ok (.getfield 66, 3) := by decide +kernel
theorem d_Lexicon_endWord_17 : decode b_Lexicon_endWord 17 = .ok (.iaload, 1) := by decide +kernel
theorem d_Lexicon_endWord_18 : decode b_Lexicon_endWord 18 = .ok (.invokestatic 73, 3) := by decide +kernel
theorem d_Lexicon_endWord_21 : decode b_Lexicon_endWord 21 = .ok (.istore_n 1, 1) := by decide +kernel
theorem d_Lexicon_endWord_22 : decode b_Lexicon_endWord 22 = .ok (.iconst 0, 1) := by decide +kernel
theorem d_Lexicon_endWord_23 : decode b_Lexicon_endWord 23 = .ok (.istore_n 2, 1) := by decide +kernel
theorem d_Lexicon_endWord_24 : decode b_Lexicon_endWord 24 = .ok (.iload_n 2, 1) := by decide +kernel
theorem d_Lexicon_endWord_25 : decode b_Lexicon_endWord 25 = .ok (.sipush 256, 3) := by decide +kernel
theorem d_Lexicon_endWord_28 : decode b_Lexicon_endWord 28 = .ok (.if_icmp .ge 37, 3) := by decide +kernel
theorem d_Lexicon_endWord_31 : decode b_Lexicon_endWord 31 = .ok (.iload_n 1, 1) := by decide +kernel
theorem d_Lexicon_endWord_32 : decode b_Lexicon_endWord 32 = .ok (.iload_n 2, 1) := by decide +kernel
theorem d_Lexicon_endWord_33 : decode b_Lexicon_endWord 33 = .ok (.iadd, 1) := by decide +kernel
theorem d_Lexicon_endWord_34 : decode b_Lexicon_endWord 34 = .ok (.sipush 255, 3) := by decide +kernel
theorem d_Lexicon_endWord_37 : decode b_Lexicon_endWord 37 = .ok (.iand, 1) := by decide +kernel
theorem d_Lexicon_endWord_38 : decode b_Lexicon_endWord 38 = .ok (.istore_n 3, 1) := by decide +kernel
theorem d_Lexicon_endWord_39 : decode b_Lexicon_endWord 39 = .ok (.aload_n 0, 1) := by decide +kernel
theorem d_Lexicon_endWord_40 : decode b_Lexicon_endWord 40 = .ok (.getfield 24, 3) := by decide +kernel
theorem d_Lexicon_endWord_43 : decode b_Lexicon_endWord 43 = .ok (.iload_n 3, 1) := by decide +kernel
theorem d_Lexicon_endWord_44 : decode b_Lexicon_endWord 44 = .ok (.iaload, 1) := by decide +kernel
theorem d_Lexicon_endWord_45 : decode b_Lexicon_endWord 45 = .ok (.ifCond .ne 14, 3) := by decide +kernel
theorem d_Lexicon_endWord_48 : decode b_Lexicon_endWord 48 = .ok (.aload_n 0, 1) := by decide +kernel
theorem d_Lexicon_endWord_49 : decode b_Lexicon_endWord 49 = .ok (.getfield 24, 3) := by decide +kernel
theorem d_Lexicon_endWord_52 : decode b_Lexicon_endWord 52 = .ok (.iload_n 3, 1) := by decide +kernel
theorem d_Lexicon_endWord_53 : decode b_Lexicon_endWord 53 = .ok (.aload_n 0, 1) := by decide +kernel
theorem d_Lexicon_endWord_54 : decode b_Lexicon_endWord 54 = .ok (.getfield 66, 3) := by decide +kernel
theorem d_Lexicon_endWord_57 : decode b_Lexicon_endWord 57 = .ok (.iastore, 1) := by decide +kernel
theorem d_Lexicon_endWord_58 : decode b_Lexicon_endWord 58 = .ok (.return_, 1) := by decide +kernel
theorem d_Lexicon_endWord_59 : decode b_Lexicon_endWord 59 = .ok (.iinc 2 1, 3) := by decide +kernel
theorem d_Lexicon_endWord_62 : decode b_Lexicon_endWord 62 = .ok (.goto (-38), 3) := by decide +kernel
theorem d_Lexicon_endWord_65 : decode b_Lexicon_endWord 65 = .ok (.return_, 1) := by decide +kernel
theorem lk_Lexicon_63 : Cond.methodLink "TurtleWorld$Lexicon" 63 ⟨"TurtleWorld$Lexicon", "addLetter", "(I)V"⟩ ∈ tw_T := tw_i1 103 (by decide +kernel) (by decide +kernel)
theorem in_Lexicon_addLetter : Cond.instanceMethod ⟨"TurtleWorld$Lexicon", "addLetter", "(I)V"⟩ ∈ tw_T := tw_i1 105 (by decide +kernel) (by decide +kernel)
theorem sel_Lexicon_addLetter : Cond.selects "TurtleWorld$Lexicon" ⟨"TurtleWorld$Lexicon", "addLetter", "(I)V"⟩ ⟨"TurtleWorld$Lexicon", "addLetter", "(I)V"⟩ ∈ tw_T := tw_inS 3 (by decide +kernel) (by decide +kernel)
theorem lx_bw {wd us : Int32} {st ar sl : Nat → Int32} (h : lx_ok wd us st ar sl) : lx_ok (m_Lexicon_beginWord_w0_5 wd) us (m_Lexicon_beginWord_w2 wd us st) ar sl := by
  have h1 := h.1; have h2 := h.2.1
  have e := lx_p1 h1.1 (by omega)
  refine ⟨?_, h2, ?_, h.2.2.2⟩
  · unfold m_Lexicon_beginWord_w0_5
    split
    · exact h1
    · rename_i h8; simp only [Int32.lt_iff_toInt_lt, Int32.le_iff_toInt_le, Int32.reduceToInt] at h8; omega
  · unfold m_Lexicon_beginWord_w2
    split
    · exact h.2.2.1
    · exact upd_all (P := fun x => 0 ≤ x.toInt ∧ x.toInt ≤ 600) h.2.2.1 h2
theorem lx_al {wd us : Int32} {st ar sl : Nat → Int32} (h : lx_ok wd us st ar sl) : lx_ok wd (m_Lexicon_addLetter_w0_6 us) st ar sl := by
  have h2 := h.2.1
  have e := lx_p1 h2.1 (by omega)
  refine ⟨h.1, ?_, h.2.2⟩
  unfold m_Lexicon_addLetter_w0_6
  split
  · exact h2
  · rename_i h8; simp only [Int32.lt_iff_toInt_lt, Int32.le_iff_toInt_le, Int32.reduceToInt] at h8; omega
theorem ld_k {i N : Nat} (hN : N < 2 ^ 31) (hi : i ≤ N) (h : ¬ nI N ≤ nI i) : (nI i).toInt < N := by
  rw [Int32.le_iff_toInt_le, nI_toInt hN, nI_toInt (by omega)] at h
  rw [nI_toInt (by omega)]; omega
theorem lx_ak {wd us : Int32} {st ar sl : Nat → Int32} (h : lx_ok wd us st ar sl) : lx_ok wd us st (m_Lexicon_addKind_w3 wd ar) sl := by
  refine ⟨h.1, h.2.1, h.2.2.1, ?_, h.2.2.2.2⟩
  unfold m_Lexicon_addKind_w3
  split
  · exact h.2.2.2.1
  · rename_i h8; simp only [Int32.lt_iff_toInt_lt, Int32.le_iff_toInt_le, Int32.reduceToInt] at h8
    have h9 := h.2.2.2.1 wd.toNatClampNeg
    exact upd_all (P := fun x => 0 ≤ x.toInt) h.2.2.2.1 (by rw [lx_p1 h9 (by omega)]; omega)

def m_Lexicon_endWord_L24_w0_6 (k_words : Int32) (k_used : Int32) (k_letters_v : Nat → Int32) (k_starts_v : Nat → Int32) (k_slots_v : Nat → Int32) : Nat → Nat → Int32 → (Nat → Int32) → Int32 → Int32
  | 0, _, _, _, _ => 0
  | n + 1, i, hs, lt, us => if ((256 : Int32)) ≤ ((nI i)) then us else if ((k_slots_v ((hs + (nI i)) &&& 255).toNatClampNeg)) = ((0 : Int32)) then us else m_Lexicon_endWord_L24_w0_6 k_words k_used k_letters_v k_starts_v k_slots_v n (i + 1) hs lt us
def m_Lexicon_endWord_L24_w1 (k_words : Int32) (k_used : Int32) (k_letters_v : Nat → Int32) (k_starts_v : Nat → Int32) (k_slots_v : Nat → Int32) : Nat → Nat → Int32 → (Nat → Int32) → Int32 → (Nat → Int32)
  | 0, _, _, _, _ => fun _ => 0
  | n + 1, i, hs, lt, us => if ((256 : Int32)) ≤ ((nI i)) then lt else if ((k_slots_v ((hs + (nI i)) &&& 255).toNatClampNeg)) = ((0 : Int32)) then lt else m_Lexicon_endWord_L24_w1 k_words k_used k_letters_v k_starts_v k_slots_v n (i + 1) hs lt us
def m_Lexicon_endWord_L24_w5 (k_words : Int32) (k_used : Int32) (k_letters_v : Nat → Int32) (k_starts_v : Nat → Int32) (k_slots_v : Nat → Int32) : Nat → Nat → Int32 → (Nat → Int32) → Int32 → (Nat → Int32)
  | 0, _, _, _, _ => fun _ => 0
  | n + 1, i, hs, lt, us => if ((256 : Int32)) ≤ ((nI i)) then k_slots_v else if ((k_slots_v ((hs + (nI i)) &&& 255).toNatClampNeg)) = ((0 : Int32)) then upd k_slots_v ((hs + (nI i)) &&& 255).toNatClampNeg k_words else m_Lexicon_endWord_L24_w5 k_words k_used k_letters_v k_starts_v k_slots_v n (i + 1) hs lt us
def m_Lexicon_endWord_w0_6 (k_words : Int32) (k_used : Int32) (k_letters_v : Nat → Int32) (k_starts_v : Nat → Int32) (k_slots_v : Nat → Int32) : Int32 := m_Lexicon_endWord_L24_w0_6 k_words k_used k_letters_v k_starts_v k_slots_v (256 - 0 + 1) 0 ((m_Lexicon_hashOf_r 600 (m_Lexicon_addLetter_w1 k_used k_letters_v 0) (k_starts_v k_words.toNatClampNeg))) ((m_Lexicon_addLetter_w1 k_used k_letters_v 0)) (m_Lexicon_addLetter_w0_6 k_used)
def m_Lexicon_endWord_w1 (k_words : Int32) (k_used : Int32) (k_letters_v : Nat → Int32) (k_starts_v : Nat → Int32) (k_slots_v : Nat → Int32) : Nat → Int32 := m_Lexicon_endWord_L24_w1 k_words k_used k_letters_v k_starts_v k_slots_v (256 - 0 + 1) 0 ((m_Lexicon_hashOf_r 600 (m_Lexicon_addLetter_w1 k_used k_letters_v 0) (k_starts_v k_words.toNatClampNeg))) ((m_Lexicon_addLetter_w1 k_used k_letters_v 0)) (m_Lexicon_addLetter_w0_6 k_used)
def m_Lexicon_endWord_w5 (k_words : Int32) (k_used : Int32) (k_letters_v : Nat → Int32) (k_starts_v : Nat → Int32) (k_slots_v : Nat → Int32) : Nat → Int32 := m_Lexicon_endWord_L24_w5 k_words k_used k_letters_v k_starts_v k_slots_v (256 - 0 + 1) 0 ((m_Lexicon_hashOf_r 600 (m_Lexicon_addLetter_w1 k_used k_letters_v 0) (k_starts_v k_words.toNatClampNeg))) ((m_Lexicon_addLetter_w1 k_used k_letters_v 0)) (m_Lexicon_addLetter_w0_6 k_used)
set_option maxHeartbeats 4000000 in
set_option maxRecDepth 100000 in
theorem lp_Lexicon_endWord_24 (l : Launch) (dC : Nat → ClassId) (dI : Nat → Nat → Nat) (h0 : Nat) (k_letters : Nat) (k_starts : Nat) (k_arities : Nat) (k_kinds : Nat) (k_slots : Nat) (k_words : Int32) (k_used : Int32) (k_letters_v : Nat → Int32) (k_starts_v : Nat → Int32) (k_arities_v : Nat → Int32) (k_kinds_v : Nat → Int32) (k_slots_v : Nat → Int32) (cI : ClassId) (hlx : lx_ok k_words k_used k_starts_v k_arities_v k_slots_v) {p : Program} {e : Env} {s : State} {m : MethodId} {below : List Frame} {meth : Method} {c : Code} {A : Nat → Prop} (hx : p.tables.exec = Jvm.exec) (hb : c.code = b_Lexicon_endWord) (hml : c.maxLocals = 4) (hown : s.vm.findClass R_Lexicon = some m.cls) (hts : ∀ w ∈ w_Lexicon_endWord, w.before ([.ref h0] : List Value).toArray s = true) (hK : va_K (dC, dI) classes [(cI, .int)] s) (hA : ∀ q : Nat, s.heap.size ≤ q → A q) (hr : meth.sig.returnType = none) (hlocks : meth.locks = false) (RV0 : Int32) (RV1 : Nat → Int32) (RV2 : Nat → Int32) : ∀ (n : Nat) (i : Nat) (hs : Int32) (lt : Nat → Int32) (us : Int32), i ≤ 256 → 256 - i < n → m_Lexicon_endWord_L24_w0_6 k_words k_used k_letters_v k_starts_v k_slots_v n i hs lt us = RV0 → m_Lexicon_endWord_L24_w1 k_words k_used k_letters_v k_starts_v k_slots_v n i hs lt us = RV1 → m_Lexicon_endWord_L24_w5 k_words k_used k_letters_v k_starts_v k_slots_v n i hs lt us = RV2 → ∀ (H : Heap) (locs : List Loc) (ls : Array Slot), va_P (dC, dI) classes [(h0, .inr (2, [.ref k_letters, .ref k_starts, .ref k_arities, .ref k_kinds, .ref k_slots, .int k_words, .int us])), (k_letters, .inl (cI, 600, .inl lt)), (k_starts, .inl (cI, 86, .inl k_starts_v)), (k_arities, .inl (cI, 86, .inl k_arities_v)), (k_kinds, .inl (cI, 258, .inl k_kinds_v)), (k_slots, .inl (cI, 256, .inl k_slots_v))] H → va_D A [(h0, .inr (2, [.ref k_letters, .ref k_starts, .ref k_arities, .ref k_kinds, .ref k_slots, .int k_words, .int us])), (k_letters, .inl (cI, 600, .inl lt)), (k_starts, .inl (cI, 86, .inl k_starts_v)), (k_arities, .inl (cI, 86, .inl k_arities_v)), (k_kinds, .inl (cI, 258, .inl k_kinds_v)), (k_slots, .inl (cI, 256, .inl k_slots_v))] → va_S A s.heap H locs → lv_has ls 4 [(2, .int (nI i)), (1, .int hs), (0, .ref h0)] → W p l e ({ frames := 2, cells := 0, slots := 0, locals := 44 } : Room) s m ([.ref h0] : List Value).toArray below meth c H locs 0 0 (MQ below (va_Qv (fun (_ : Unit) => True) (fun (_ : Unit) t => va_P (dC, dI) classes [(h0, .inr (2, [.ref k_letters, .ref k_starts, .ref k_arities, .ref k_kinds, .ref k_slots, .int k_words, .int RV0])), (k_letters, .inl (cI, 600, .inl RV1)), (k_starts, .inl (cI, 86, .inl k_starts_v)), (k_arities, .inl (cI, 86, .inl k_arities_v)), (k_kinds, .inl (cI, 258, .inl k_kinds_v)), (k_slots, .inl (cI, 256, .inl RV2))] t.heap ∧ va_K (dC, dI) classes [(cI, .int)] t ∧ va_D A [(h0, .inr (2, [.ref k_letters, .ref k_starts, .ref k_arities, .ref k_kinds, .ref k_slots, .int k_words, .int RV0])), (k_letters, .inl (cI, 600, .inl RV1)), (k_starts, .inl (cI, 86, .inl k_starts_v)), (k_arities, .inl (cI, 86, .inl k_arities_v)), (k_kinds, .inl (cI, 258, .inl k_kinds_v)), (k_slots, .inl (cI, 256, .inl RV2))]) A) ([.ref h0] : List Value).toArray s 0 0 A) (F0 m 24 ls []) := by
  have htt : ∀ w ∈ tw_T, w.before _ s = true := fun w h => hts w (List.mem_cons_of_mem _ h)
  intro n
  induction n with
  | zero =>
    intro i hs lt us hi hmu
    exact absurd hmu (Nat.not_lt_zero _)
  | succ n ih =>
    intro i hs lt us hi hmu hR0 hR1 hR2 H locs ls hP hD hS hl
    refine lv_iload_n hx hb d_Lexicon_endWord_24 rfl (lv_at hl 0 rfl) ?_
    refine lv_sipush (v := 256) hx hb d_Lexicon_endWord_25 (by decide) ?_
    refine lv_icmp_ge (tgt := 65) hx hb d_Lexicon_endWord_28 (by decide) (fun c_1 => ?_) (fun c_1 => ?_)
    · have hP9 := hP.sub (ws' := [(h0, .inr (2, [.ref k_letters, .ref k_starts, .ref k_arities, .ref k_kinds, .ref k_slots, .int k_words, .int us])), (k_letters, .inl (cI, 600, .inl lt)), (k_starts, .inl (cI, 86, .inl k_starts_v)), (k_arities, .inl (cI, 86, .inl k_arities_v)), (k_kinds, .inl (cI, 258, .inl k_kinds_v)), (k_slots, .inl (cI, 256, .inl k_slots_v))]) [0, 1, 2, 3, 4, 5] rfl
      have hD9 := hD.sub (ws' := [(h0, .inr (2, [.ref k_letters, .ref k_starts, .ref k_arities, .ref k_kinds, .ref k_slots, .int k_words, .int us])), (k_letters, .inl (cI, 600, .inl lt)), (k_starts, .inl (cI, 86, .inl k_starts_v)), (k_arities, .inl (cI, 86, .inl k_arities_v)), (k_kinds, .inl (cI, 258, .inl k_kinds_v)), (k_slots, .inl (cI, 256, .inl k_slots_v))]) [0, 1, 2, 3, 4, 5] (by decide) rfl
      have eW : [(h0, .inr (2, [.ref k_letters, .ref k_starts, .ref k_arities, .ref k_kinds, .ref k_slots, .int k_words, .int us])), (k_letters, .inl (cI, 600, .inl lt)), (k_starts, .inl (cI, 86, .inl k_starts_v)), (k_arities, .inl (cI, 86, .inl k_arities_v)), (k_kinds, .inl (cI, 258, .inl k_kinds_v)), (k_slots, .inl (cI, 256, .inl k_slots_v))] = ([(h0, .inr (2, [.ref k_letters, .ref k_starts, .ref k_arities, .ref k_kinds, .ref k_slots, .int k_words, .int RV0])), (k_letters, .inl (cI, 600, .inl RV1)), (k_starts, .inl (cI, 86, .inl k_starts_v)), (k_arities, .inl (cI, 86, .inl k_arities_v)), (k_kinds, .inl (cI, 258, .inl k_kinds_v)), (k_slots, .inl (cI, 256, .inl RV2))] : va_W) := by rw [← hR0, ← hR1, ← hR2]; simp only [m_Lexicon_endWord_L24_w0_6, m_Lexicon_endWord_L24_w1, m_Lexicon_endWord_L24_w5, if_pos c_1]
      rw [eW] at hP9 hD9
      exact W.vret hx hb hr (fun t9 ht hW => ⟨⟨(), rfl, trivial, by rw [ht]; exact hP9, va_K.moved hW.alike hK, hD9⟩, hS.F ht⟩) hS.2.2 d_Lexicon_endWord_65
    · refine lv_iload_n hx hb d_Lexicon_endWord_31 rfl (lv_at hl 1 rfl) ?_
      refine lv_iload_n hx hb d_Lexicon_endWord_32 rfl (lv_at hl 0 rfl) ?_
      refine lv_iadd hx hb d_Lexicon_endWord_33 ?_
      refine lv_sipush (v := 255) hx hb d_Lexicon_endWord_34 (by decide) ?_
      refine lv_iand hx hb d_Lexicon_endWord_37 ?_
      refine lv_topi (fun x_2 ex_2 => ?_)
      refine lv_istore_n (lv' := [(3, .int x_2), (2, .int (nI i)), (1, .int hs), (0, .ref h0)]) hx hb d_Lexicon_endWord_38 rfl hl (by decide) rfl (fun ls hl => ?_)
      refine lv_aload_n hx hb d_Lexicon_endWord_39 rfl (lv_at hl 3 rfl) ?_
      refine va_get (D := (dC, dI)) (ci := 2) (v := .ref k_slots) (C := R_Lexicon) (T := F_Lexicon) (N := 7) hx hb htt iw_Lexicon hown hK hP 0 rfl rfl 4 (by decide) (htt _ lk_Lexicon_24) (fun _ h9 => h9) rfl d_Lexicon_endWord_40 ?_
      refine lv_iload_n hx hb d_Lexicon_endWord_43 rfl (lv_at hl 0 rfl) ?_
      have h_3 : vp_in x_2 256 := by rw [ex_2]; exact pk_andIn _ 8 (by decide) (by decide)
      refine va_iald hx hb hK hP 5 0 rfl rfl h_3 d_Lexicon_endWord_44 ?_
      refine lv_if_ne (tgt := 59) hx hb d_Lexicon_endWord_45 (by decide) (fun c_4 => ?_) (fun c_4 => ?_)
      · refine lv_iinc (v := nI (i + 1)) (lv' := [(2, .int (nI (i + 1))), (3, .int x_2), (1, .int hs), (0, .ref h0)]) hx hb d_Lexicon_endWord_59 hl (k := 1) rfl (nI_1 _) (by decide) rfl (fun ls hl => ?_)
        refine lv_goto (tgt := 24) hx hb d_Lexicon_endWord_62 (by decide) ?_
        exact ih (i + 1) hs lt us (by have h8 := c_1; simp only [Int32.lt_iff_toInt_lt, Int32.le_iff_toInt_le, Int32.reduceToInt] at h8; rw [nI_toInt (by omega)] at h8; omega) (by have h8 := c_1; simp only [Int32.lt_iff_toInt_lt, Int32.le_iff_toInt_le, Int32.reduceToInt] at h8; rw [nI_toInt (by omega)] at h8; omega) (by subst ex_2; rw [← hR0]; simp only [m_Lexicon_endWord_L24_w0_6, if_neg c_1, if_neg c_4]) (by subst ex_2; rw [← hR1]; simp only [m_Lexicon_endWord_L24_w1, if_neg c_1, if_neg c_4]) (by subst ex_2; rw [← hR2]; simp only [m_Lexicon_endWord_L24_w5, if_neg c_1, if_neg c_4]) _ _ _ (hP.sub [0, 1, 2, 3, 4, 5] rfl) (hD.sub [0, 1, 2, 3, 4, 5] (by decide) rfl) hS (lv_sub hl [0, 2, 3] rfl)
      · refine lv_aload_n hx hb d_Lexicon_endWord_48 rfl (lv_at hl 3 rfl) ?_
        refine va_get (D := (dC, dI)) (ci := 2) (v := .ref k_slots) (C := R_Lexicon) (T := F_Lexicon) (N := 7) hx hb htt iw_Lexicon hown hK hP 0 rfl rfl 4 (by decide) (htt _ lk_Lexicon_24) (fun _ h9 => h9) rfl d_Lexicon_endWord_49 ?_
        refine lv_iload_n hx hb d_Lexicon_endWord_52 rfl (lv_at hl 0 rfl) ?_
        refine lv_aload_n hx hb d_Lexicon_endWord_53 rfl (lv_at hl 3 rfl) ?_
        refine va_get (D := (dC, dI)) (ci := 2) (v := .int k_words) (C := R_Lexicon) (T := F_Lexicon) (N := 7) hx hb htt iw_Lexicon hown hK hP 0 rfl rfl 5 (by decide) (htt _ lk_Lexicon_66) (fun _ h9 => h9) rfl d_Lexicon_endWord_54 ?_
        have h_5 : vp_in x_2 256 := by rw [ex_2]; exact pk_andIn _ 8 (by decide) (by decide)
        refine va_iast hx hb hK hP hD hS 5 0 rfl rfl h_5 d_Lexicon_endWord_57 (fun H locs hP hD hS => ?_)
        have hP : va_P (dC, dI) classes [(h0, .inr (2, [.ref k_letters, .ref k_starts, .ref k_arities, .ref k_kinds, .ref k_slots, .int k_words, .int us])), (k_letters, .inl (cI, 600, .inl lt)), (k_starts, .inl (cI, 86, .inl k_starts_v)), (k_arities, .inl (cI, 86, .inl k_arities_v)), (k_kinds, .inl (cI, 258, .inl k_kinds_v)), (k_slots, .inl (cI, 256, .inl (upd k_slots_v x_2.toNatClampNeg k_words)))] H := hP
        have hD : va_D A [(h0, .inr (2, [.ref k_letters, .ref k_starts, .ref k_arities, .ref k_kinds, .ref k_slots, .int k_words, .int us])), (k_letters, .inl (cI, 600, .inl lt)), (k_starts, .inl (cI, 86, .inl k_starts_v)), (k_arities, .inl (cI, 86, .inl k_arities_v)), (k_kinds, .inl (cI, 258, .inl k_kinds_v)), (k_slots, .inl (cI, 256, .inl (upd k_slots_v x_2.toNatClampNeg k_words)))] := hD
        subst ex_2
        have hP9 := hP.sub (ws' := [(h0, .inr (2, [.ref k_letters, .ref k_starts, .ref k_arities, .ref k_kinds, .ref k_slots, .int k_words, .int us])), (k_letters, .inl (cI, 600, .inl lt)), (k_starts, .inl (cI, 86, .inl k_starts_v)), (k_arities, .inl (cI, 86, .inl k_arities_v)), (k_kinds, .inl (cI, 258, .inl k_kinds_v)), (k_slots, .inl (cI, 256, .inl (upd k_slots_v ((hs + (nI i)) &&& 255).toNatClampNeg k_words)))]) [0, 1, 2, 3, 4, 5] rfl
        have hD9 := hD.sub (ws' := [(h0, .inr (2, [.ref k_letters, .ref k_starts, .ref k_arities, .ref k_kinds, .ref k_slots, .int k_words, .int us])), (k_letters, .inl (cI, 600, .inl lt)), (k_starts, .inl (cI, 86, .inl k_starts_v)), (k_arities, .inl (cI, 86, .inl k_arities_v)), (k_kinds, .inl (cI, 258, .inl k_kinds_v)), (k_slots, .inl (cI, 256, .inl (upd k_slots_v ((hs + (nI i)) &&& 255).toNatClampNeg k_words)))]) [0, 1, 2, 3, 4, 5] (by decide) rfl
        have eW : [(h0, .inr (2, [.ref k_letters, .ref k_starts, .ref k_arities, .ref k_kinds, .ref k_slots, .int k_words, .int us])), (k_letters, .inl (cI, 600, .inl lt)), (k_starts, .inl (cI, 86, .inl k_starts_v)), (k_arities, .inl (cI, 86, .inl k_arities_v)), (k_kinds, .inl (cI, 258, .inl k_kinds_v)), (k_slots, .inl (cI, 256, .inl (upd k_slots_v ((hs + (nI i)) &&& 255).toNatClampNeg k_words)))] = ([(h0, .inr (2, [.ref k_letters, .ref k_starts, .ref k_arities, .ref k_kinds, .ref k_slots, .int k_words, .int RV0])), (k_letters, .inl (cI, 600, .inl RV1)), (k_starts, .inl (cI, 86, .inl k_starts_v)), (k_arities, .inl (cI, 86, .inl k_arities_v)), (k_kinds, .inl (cI, 258, .inl k_kinds_v)), (k_slots, .inl (cI, 256, .inl RV2))] : va_W) := by rw [← hR0, ← hR1, ← hR2]; simp only [m_Lexicon_endWord_L24_w0_6, m_Lexicon_endWord_L24_w1, m_Lexicon_endWord_L24_w5, if_neg c_1, if_pos c_4]
        rw [eW] at hP9 hD9
        exact W.vret hx hb hr (fun t9 ht hW => ⟨⟨(), rfl, trivial, by rw [ht]; exact hP9, va_K.moved hW.alike hK, hD9⟩, hS.F ht⟩) hS.2.2 d_Lexicon_endWord_58

set_option maxHeartbeats 4000000 in
set_option maxRecDepth 100000 in
/-- a WORD has been told -/
theorem c_Lexicon_endWord (l : Launch) (dC : Nat → ClassId) (dI : Nat → Nat → Nat) (sz : Nat) (h0 : Nat) (k_letters : Nat) (k_starts : Nat) (k_arities : Nat) (k_kinds : Nat) (k_slots : Nat) (k_words : Int32) (k_used : Int32) (k_letters_v : Nat → Int32) (k_starts_v : Nat → Int32) (k_arities_v : Nat → Int32) (k_kinds_v : Nat → Int32) (k_slots_v : Nat → Int32) (cI : ClassId) (hlx : lx_ok k_words k_used k_starts_v k_arities_v k_slots_v) : Met l y_Lexicon_endWord w_Lexicon_endWord ({ frames := 2, cells := 0, slots := 0, locals := 44 }) (va_Pc [.ref h0] (fun U => U.heap.size = sz ∧ va_P (dC, dI) classes [(h0, .inr (2, [.ref k_letters, .ref k_starts, .ref k_arities, .ref k_kinds, .ref k_slots, .int k_words, .int k_used])), (k_letters, .inl (cI, 600, .inl k_letters_v)), (k_starts, .inl (cI, 86, .inl k_starts_v)), (k_arities, .inl (cI, 86, .inl k_arities_v)), (k_kinds, .inl (cI, 258, .inl k_kinds_v)), (k_slots, .inl (cI, 256, .inl k_slots_v))] U.heap ∧ va_K (dC, dI) classes [(cI, .int)] U ∧ va_D (fun _ => True) [(h0, .inr (2, [.ref k_letters, .ref k_starts, .ref k_arities, .ref k_kinds, .ref k_slots, .int k_words, .int k_used])), (k_letters, .inl (cI, 600, .inl k_letters_v)), (k_starts, .inl (cI, 86, .inl k_starts_v)), (k_arities, .inl (cI, 86, .inl k_arities_v)), (k_kinds, .inl (cI, 258, .inl k_kinds_v)), (k_slots, .inl (cI, 256, .inl k_slots_v))])) (va_Qv (fun (_ : Unit) => True) (fun (_ : Unit) t => va_P (dC, dI) classes [(h0, .inr (2, [.ref k_letters, .ref k_starts, .ref k_arities, .ref k_kinds, .ref k_slots, .int k_words, .int (m_Lexicon_endWord_w0_6 k_words k_used k_letters_v k_starts_v k_slots_v)])), (k_letters, .inl (cI, 600, .inl (m_Lexicon_endWord_w1 k_words k_used k_letters_v k_starts_v k_slots_v))), (k_starts, .inl (cI, 86, .inl k_starts_v)), (k_arities, .inl (cI, 86, .inl k_arities_v)), (k_kinds, .inl (cI, 258, .inl k_kinds_v)), (k_slots, .inl (cI, 256, .inl (m_Lexicon_endWord_w5 k_words k_used k_letters_v k_starts_v k_slots_v)))] t.heap ∧ va_K (dC, dI) classes [(cI, .int)] t ∧ va_D (va_A [(h0, .inr (2, [.ref k_letters, .ref k_starts, .ref k_arities, .ref k_kinds, .ref k_slots, .int k_words, .int k_used])), (k_letters, .inl (cI, 600, .inl k_letters_v)), (k_starts, .inl (cI, 86, .inl k_starts_v)), (k_arities, .inl (cI, 86, .inl k_arities_v)), (k_kinds, .inl (cI, 258, .inl k_kinds_v)), (k_slots, .inl (cI, 256, .inl k_slots_v))] sz) [(h0, .inr (2, [.ref k_letters, .ref k_starts, .ref k_arities, .ref k_kinds, .ref k_slots, .int k_words, .int (m_Lexicon_endWord_w0_6 k_words k_used k_letters_v k_starts_v k_slots_v)])), (k_letters, .inl (cI, 600, .inl (m_Lexicon_endWord_w1 k_words k_used k_letters_v k_starts_v k_slots_v))), (k_starts, .inl (cI, 86, .inl k_starts_v)), (k_arities, .inl (cI, 86, .inl k_arities_v)), (k_kinds, .inl (cI, 258, .inl k_kinds_v)), (k_slots, .inl (cI, 256, .inl (m_Lexicon_endWord_w5 k_words k_used k_letters_v k_starts_v k_slots_v)))]) (va_A [(h0, .inr (2, [.ref k_letters, .ref k_starts, .ref k_arities, .ref k_kinds, .ref k_slots, .int k_words, .int k_used])), (k_letters, .inl (cI, 600, .inl k_letters_v)), (k_starts, .inl (cI, 86, .inl k_starts_v)), (k_arities, .inl (cI, 86, .inl k_arities_v)), (k_kinds, .inl (cI, 258, .inl k_kinds_v)), (k_slots, .inl (cI, 256, .inl k_slots_v))] sz)) 0 0 (va_A [(h0, .inr (2, [.ref k_letters, .ref k_starts, .ref k_arities, .ref k_kinds, .ref k_slots, .int k_words, .int k_used])), (k_letters, .inl (cI, 600, .inl k_letters_v)), (k_starts, .inl (cI, 86, .inl k_starts_v)), (k_arities, .inl (cI, 86, .inl k_arities_v)), (k_kinds, .inl (cI, 258, .inl k_kinds_v)), (k_slots, .inl (cI, 256, .inl k_slots_v))] sz) := by
  refine Met.ofW (cc := b_Lexicon_endWord) (maxL := 4) (ret := none) (by decide) rfl ?_
  intro p e s m args below meth c s₁ B hml hv
  obtain ⟨rfl, hsz, hP, hK, hD0⟩ := hv
  have hx := B.exec
  have hb := B.bytes
  have hr := B.returns
  have hts := atoms_spec (ws := w_Lexicon_endWord) B.pre
  have htt : ∀ w ∈ tw_T, w.before _ s = true := fun w h => hts w (List.mem_cons_of_mem _ h)
  have hown : s.vm.findClass R_Lexicon = some m.cls := findClass_of_methodNamed B.named
  have hlocks := B.notSynchronized
  subst hsz
  have hD := hD0.self (sz := s.heap.size)
  generalize hAe : va_A [(h0, .inr (2, [.ref k_letters, .ref k_starts, .ref k_arities, .ref k_kinds, .ref k_slots, .int k_words, .int k_used])), (k_letters, .inl (cI, 600, .inl k_letters_v)), (k_starts, .inl (cI, 86, .inl k_starts_v)), (k_arities, .inl (cI, 86, .inl k_arities_v)), (k_kinds, .inl (cI, 258, .inl k_kinds_v)), (k_slots, .inl (cI, 256, .inl k_slots_v))] s.heap.size = A at hD ⊢
  have hA : ∀ q : Nat, s.heap.size ≤ q → A q := fun q h => by rw [← hAe]; exact Or.inr h
  have hS : va_S A s.heap s.heap [] := va_S.rf
  have hP : va_P (dC, dI) classes [(h0, .inr (2, [.ref k_letters, .ref k_starts, .ref k_arities, .ref k_kinds, .ref k_slots, .int k_words, .int k_used])), (k_letters, .inl (cI, 600, .inl k_letters_v)), (k_starts, .inl (cI, 86, .inl k_starts_v)), (k_arities, .inl (cI, 86, .inl k_arities_v)), (k_kinds, .inl (cI, 258, .inl k_kinds_v)), (k_slots, .inl (cI, 256, .inl k_slots_v))] s.heap := hP
  have hl := lv_entry ([.ref h0]) (n := 4) (Nat.le_of_ble_eq_true rfl)
  rw [lg_entry_eq]
  generalize (lg_sl ([.ref h0]) ++ List.replicate (4 - (lg_sl ([.ref h0])).length) Slot.unset).toArray = ls at hl ⊢
  have hl : lv_has ls 4 [(0, .ref h0)] := hl
  refine lv_aload_n hx hb d_Lexicon_endWord_0 rfl (lv_at hl 0 rfl) ?_
  refine lv_iconst (v := 0) hx hb d_Lexicon_endWord_1 (by decide) ?_
  have hPc := hP.sub (ws' := [(h0, .inr (2, [.ref k_letters, .ref k_starts, .ref k_arities, .ref k_kinds, .ref k_slots, .int k_words, .int k_used])), (k_letters, .inl (cI, 600, .inl k_letters_v)), (k_starts, .inl (cI, 86, .inl k_starts_v)), (k_arities, .inl (cI, 86, .inl k_arities_v)), (k_kinds, .inl (cI, 258, .inl k_kinds_v)), (k_slots, .inl (cI, 256, .inl k_slots_v))]) [0, 1, 2, 3, 4, 5] rfl
  have hDc := hD.sub (ws' := [(h0, .inr (2, [.ref k_letters, .ref k_starts, .ref k_arities, .ref k_kinds, .ref k_slots, .int k_words, .int k_used])), (k_letters, .inl (cI, 600, .inl k_letters_v)), (k_starts, .inl (cI, 86, .inl k_starts_v)), (k_arities, .inl (cI, 86, .inl k_arities_v)), (k_kinds, .inl (cI, 258, .inl k_kinds_v)), (k_slots, .inl (cI, 256, .inl k_slots_v))]) [0, 1, 2, 3, 4, 5] (by decide) rfl
  have hKc := hK.sub (tys' := [(cI, .int)]) [0] rfl
  have hFc := va_free (wc := [(h0, .inr (2, [.ref k_letters, .ref k_starts, .ref k_arities, .ref k_kinds, .ref k_slots, .int k_words, .int k_used])), (k_letters, .inl (cI, 600, .inl k_letters_v)), (k_starts, .inl (cI, 86, .inl k_starts_v)), (k_arities, .inl (cI, 86, .inl k_arities_v)), (k_kinds, .inl (cI, 258, .inl k_kinds_v)), (k_slots, .inl (cI, 256, .inl k_slots_v))]) hD hS hA [0, 1, 2, 3, 4, 5] rfl
  refine va_callv (va_runV (As := [.int 0]) (rest := []) ⟨hx, hb, hml, hown, hts⟩ (c_Lexicon_addLetter l dC dI s.heap.size h0 k_letters k_starts k_arities k_kinds k_slots k_words k_used k_letters_v k_starts_v k_arities_v k_kinds_v k_slots_v cI 0 (by assumption)) (cwV 1 hts (tw_GV tw_cons cw_Lexicon_addLetter lk_Lexicon_63 in_Lexicon_addLetter sel_Lexicon_addLetter ini_Lexicon) rfl rfl rfl (by decide +kernel) ⟨Nat.le_of_ble_eq_true rfl, Nat.le_of_ble_eq_true rfl⟩) ⟨fun a U g mk q => by obtain ⟨q0, q1, qP, qK, qD⟩ := q; exact ⟨q0, q1, qP, va_K.moved (u := U) (U := U.calling g mk a) (Vm.Alike.refl U.vm) qK, qD⟩, va_recv hKc hPc (ci := 2) (q0 := 0) rfl rfl, fun U hU hW => ⟨rfl, by rw [hU], by rw [hU]; exact hPc, va_K.moved hW.alike hKc, hDc.weaken (fun _ _ _ _ => trivial)⟩⟩ rfl rfl hl.1 rfl (lv_room (Nat.le_of_ble_eq_true rfl)) d_Lexicon_endWord_2 ⟨Nat.le_of_ble_eq_true rfl, Nat.le_of_ble_eq_true rfl⟩) hS (fun q _ h => hFc q h) hFc (fun u9 t9 H1 locs ht hvm e9 hB hz1 hk1 hS => ?_)
  obtain ⟨hP1, hK1, hD1⟩ := hB
  rw [ht] at hP1
  obtain ⟨hP, hD⟩ := va_join (wr := []) (w1 := [(h0, .inr (2, [.ref k_letters, .ref k_starts, .ref k_arities, .ref k_kinds, .ref k_slots, .int k_words, .int (m_Lexicon_addLetter_w0_6 k_used)])), (k_letters, .inl (cI, 600, .inl (m_Lexicon_addLetter_w1 k_used k_letters_v 0))), (k_starts, .inl (cI, 86, .inl k_starts_v)), (k_arities, .inl (cI, 86, .inl k_arities_v)), (k_kinds, .inl (cI, 258, .inl k_kinds_v)), (k_slots, .inl (cI, 256, .inl k_slots_v))]) hP hD [0, 1, 2, 3, 4, 5] [] rfl rfl (by decide) (by decide) hk1 hFc hP1 hD1
  clear hP1 hD1 hK1 hvm hz1 hk1 hFc hKc hDc hPc
  subst ht
  generalize t9.heap = H at hP hS ⊢
  have hP : va_P (dC, dI) classes [(h0, .inr (2, [.ref k_letters, .ref k_starts, .ref k_arities, .ref k_kinds, .ref k_slots, .int k_words, .int (m_Lexicon_addLetter_w0_6 k_used)])), (k_letters, .inl (cI, 600, .inl (m_Lexicon_addLetter_w1 k_used k_letters_v 0))), (k_starts, .inl (cI, 86, .inl k_starts_v)), (k_arities, .inl (cI, 86, .inl k_arities_v)), (k_kinds, .inl (cI, 258, .inl k_kinds_v)), (k_slots, .inl (cI, 256, .inl k_slots_v))] H := hP
  have hD : va_D A [(h0, .inr (2, [.ref k_letters, .ref k_starts, .ref k_arities, .ref k_kinds, .ref k_slots, .int k_words, .int (m_Lexicon_addLetter_w0_6 k_used)])), (k_letters, .inl (cI, 600, .inl (m_Lexicon_addLetter_w1 k_used k_letters_v 0))), (k_starts, .inl (cI, 86, .inl k_starts_v)), (k_arities, .inl (cI, 86, .inl k_arities_v)), (k_kinds, .inl (cI, 258, .inl k_kinds_v)), (k_slots, .inl (cI, 256, .inl k_slots_v))] := hD
  refine lv_aload_n hx hb d_Lexicon_endWord_5 rfl (lv_at hl 0 rfl) ?_
  refine va_get (D := (dC, dI)) (ci := 2) (v := .ref k_letters) (C := R_Lexicon) (T := F_Lexicon) (N := 7) hx hb htt iw_Lexicon hown hK hP 0 rfl rfl 0 (by decide) (htt _ lk_Lexicon_11) (fun _ h9 => h9) rfl d_Lexicon_endWord_6 ?_
  refine lv_aload_n hx hb d_Lexicon_endWord_9 rfl (lv_at hl 0 rfl) ?_
  refine va_get (D := (dC, dI)) (ci := 2) (v := .ref k_starts) (C := R_Lexicon) (T := F_Lexicon) (N := 7) hx hb htt iw_Lexicon hown hK hP 0 rfl rfl 1 (by decide) (htt _ lk_Lexicon_15) (fun _ h9 => h9) rfl d_Lexicon_endWord_10 ?_
  refine lv_aload_n hx hb d_Lexicon_endWord_13 rfl (lv_at hl 0 rfl) ?_
  refine va_get (D := (dC, dI)) (ci := 2) (v := .int k_words) (C := R_Lexicon) (T := F_Lexicon) (N := 7) hx hb htt iw_Lexicon hown hK hP 0 rfl rfl 5 (by decide) (htt _ lk_Lexicon_66) (fun _ h9 => h9) rfl d_Lexicon_endWord_14 ?_
  have h_1 : vp_in k_words 86 := lx_in86 hlx.1.1 hlx.1.2
  refine va_iald hx hb hK hP 2 0 rfl rfl h_1 d_Lexicon_endWord_17 ?_
  have hPc := hP.sub (ws' := [(k_letters, .inl (cI, 600, .inl ((m_Lexicon_addLetter_w1 k_used k_letters_v 0))))]) [1] rfl
  have hDc := hD.sub (ws' := [(k_letters, .inl (cI, 600, .inl ((m_Lexicon_addLetter_w1 k_used k_letters_v 0))))]) [1] (by decide) rfl
  have hKc := hK.sub (tys' := [(cI, .int)]) [0] rfl
  have hFc := va_free (wc := [(k_letters, .inl (cI, 600, .inl ((m_Lexicon_addLetter_w1 k_used k_letters_v 0))))]) hD hS hA [1] rfl
  refine va_calli (va_runS (As := [.ref k_letters, .int (k_starts_v k_words.toNatClampNeg)]) (rest := []) ⟨hx, hb, hml, hown, hts⟩ (c_Lexicon_hashOf l dC dI H.size k_letters cI 600 (m_Lexicon_addLetter_w1 k_used k_letters_v 0) (k_starts_v k_words.toNatClampNeg) (by decide)) (va_cwS 2 hts (tw_GS tw_cons cw_Lexicon_hashOf lk_Lexicon_73 st_Lexicon_hashOf ini_Lexicon) rfl rfl rfl (by decide +kernel) ⟨Nat.le_of_ble_eq_true rfl, Nat.le_of_ble_eq_true rfl⟩) ⟨fun a U g mk q => by obtain ⟨q0, q1, qP, qK, qD⟩ := q; exact ⟨q0, q1, qP, va_K.moved (u := U) (U := U.calling g mk a) (Vm.Alike.refl U.vm) qK, qD⟩, fun U hU hW => ⟨rfl, by rw [hU], by rw [hU]; exact hPc, va_K.moved hW.alike hKc, hDc.weaken (fun _ _ _ _ => trivial)⟩⟩ rfl rfl hl.1 rfl (lv_room (Nat.le_of_ble_eq_true rfl)) d_Lexicon_endWord_18 ⟨Nat.le_of_ble_eq_true rfl, Nat.le_of_ble_eq_true rfl⟩) hS (fun q _ h => hFc q h) hFc (fun r9 u9 t9 H1 locs ht hvm e9 hB hz1 hk1 hS => ?_)
  obtain ⟨hP1, hK1, hD1⟩ := hB
  rw [ht] at hP1
  obtain ⟨hP, hD⟩ := va_join (wr := [(h0, .inr (2, [.ref k_letters, .ref k_starts, .ref k_arities, .ref k_kinds, .ref k_slots, .int k_words, .int (m_Lexicon_addLetter_w0_6 k_used)])), (k_starts, .inl (cI, 86, .inl k_starts_v)), (k_arities, .inl (cI, 86, .inl k_arities_v)), (k_kinds, .inl (cI, 258, .inl k_kinds_v)), (k_slots, .inl (cI, 256, .inl k_slots_v))]) (w1 := [(k_letters, .inl (cI, 600, .inl ((m_Lexicon_addLetter_w1 k_used k_letters_v 0))))]) hP hD [1] [0, 2, 3, 4, 5] rfl rfl (by decide) (by decide) hk1 hFc hP1 hD1
  subst e9
  clear hP1 hD1 hK1 hvm hz1 hk1 hFc hKc hDc hPc
  subst ht
  generalize t9.heap = H at hP hS ⊢
  have hP : va_P (dC, dI) classes [(h0, .inr (2, [.ref k_letters, .ref k_starts, .ref k_arities, .ref k_kinds, .ref k_slots, .int k_words, .int (m_Lexicon_addLetter_w0_6 k_used)])), (k_starts, .inl (cI, 86, .inl k_starts_v)), (k_arities, .inl (cI, 86, .inl k_arities_v)), (k_kinds, .inl (cI, 258, .inl k_kinds_v)), (k_slots, .inl (cI, 256, .inl k_slots_v)), (k_letters, .inl (cI, 600, .inl ((m_Lexicon_addLetter_w1 k_used k_letters_v 0))))] H := hP
  have hD : va_D A [(h0, .inr (2, [.ref k_letters, .ref k_starts, .ref k_arities, .ref k_kinds, .ref k_slots, .int k_words, .int (m_Lexicon_addLetter_w0_6 k_used)])), (k_starts, .inl (cI, 86, .inl k_starts_v)), (k_arities, .inl (cI, 86, .inl k_arities_v)), (k_kinds, .inl (cI, 258, .inl k_kinds_v)), (k_slots, .inl (cI, 256, .inl k_slots_v)), (k_letters, .inl (cI, 600, .inl ((m_Lexicon_addLetter_w1 k_used k_letters_v 0))))] := hD
  refine lv_topi (fun x_2 ex_2 => ?_)
  refine lv_istore_n (lv' := [(1, .int x_2), (0, .ref h0)]) hx hb d_Lexicon_endWord_21 rfl hl (by decide) rfl (fun ls hl => ?_)
  refine lv_iconst (v := 0) hx hb d_Lexicon_endWord_22 (by decide) ?_
  refine lv_istore_n (lv' := [(2, .int 0), (1, .int x_2), (0, .ref h0)]) hx hb d_Lexicon_endWord_23 rfl hl (by decide) rfl (fun ls hl => ?_)
  exact lp_Lexicon_endWord_24 l dC dI h0 k_letters k_starts k_arities k_kinds k_slots k_words k_used k_letters_v k_starts_v k_arities_v k_kinds_v k_slots_v cI hlx hx hb hml hown hts hK hA hr hlocks (m_Lexicon_endWord_w0_6 k_words k_used k_letters_v k_starts_v k_slots_v) (m_Lexicon_endWord_w1 k_words k_used k_letters_v k_starts_v k_slots_v) (m_Lexicon_endWord_w5 k_words k_used k_letters_v k_starts_v k_slots_v) (256 - 0 + 1) 0 x_2 ((m_Lexicon_addLetter_w1 k_used k_letters_v 0)) (m_Lexicon_addLetter_w0_6 k_used) (by omega) (by exact Nat.lt_succ_self _) (by subst ex_2; unfold m_Lexicon_endWord_w0_6; rfl) (by subst ex_2; unfold m_Lexicon_endWord_w1; rfl) (by subst ex_2; unfold m_Lexicon_endWord_w5; rfl) _ _ _ (hP.sub [0, 5, 1, 2, 3, 4] rfl) (hD.sub [0, 5, 1, 2, 3, 4] (by decide) rfl) hS (lv_sub hl [0, 1, 2] rfl)

theorem lx_ewA (a b : Int32) (f g h : Nat → Int32) : ∀ (n i : Nat) (hs : Int32) (lt : Nat → Int32) (us : Int32), 0 ≤ us.toInt ∧ us.toInt ≤ 600 → 0 ≤ (m_Lexicon_endWord_L24_w0_6 a b f g h n i hs lt us).toInt ∧ (m_Lexicon_endWord_L24_w0_6 a b f g h n i hs lt us).toInt ≤ 600 := by
  intro n
  induction n with
  | zero => intro i hs lt us h; simp only [m_Lexicon_endWord_L24_w0_6]; decide
  | succ n ih =>
    intro i hs lt us h
    simp only [m_Lexicon_endWord_L24_w0_6]
    split
    · exact h
    · split
      · exact h
      · exact ih _ _ _ _ h
theorem lx_ewB (a b : Int32) (f g h : Nat → Int32) (ha : 0 ≤ a.toInt ∧ a.toInt ≤ 85) (hh : ∀ j, 0 ≤ (h j).toInt ∧ (h j).toInt ≤ 85) : ∀ (n i : Nat) (hs : Int32) (lt : Nat → Int32) (us : Int32), ∀ j, 0 ≤ (m_Lexicon_endWord_L24_w5 a b f g h n i hs lt us j).toInt ∧ (m_Lexicon_endWord_L24_w5 a b f g h n i hs lt us j).toInt ≤ 85 := by
  intro n
  induction n with
  | zero => intro i hs lt us j; simp only [m_Lexicon_endWord_L24_w5]; decide
  | succ n ih =>
    intro i hs lt us
    simp only [m_Lexicon_endWord_L24_w5]
    split
    · exact hh
    · split
      · exact upd_all (P := fun x => 0 ≤ x.toInt ∧ x.toInt ≤ 85) hh ha
      · exact ih _ _ _ _
theorem lx_ew {wd us : Int32} {lt st ar sl : Nat → Int32} (h : lx_ok wd us st ar sl) : lx_ok wd (m_Lexicon_endWord_w0_6 wd us lt st sl) st ar (m_Lexicon_endWord_w5 wd us lt st sl) :=
  by
  unfold m_Lexicon_endWord_w0_6 m_Lexicon_endWord_w5
  exact ⟨h.1, lx_ewA _ _ _ _ _ _ _ _ _ _ (lx_al h).2.1, h.2.2.1, h.2.2.2.1, lx_ewB _ _ _ _ _ h.1 h.2.2.2.2 _ _ _ _ _⟩
