theorem d_Lexicon_kind_0 : decode b_Lexicon_kind 0 = .ok (.iload_n 1, 1) := by decide +kernel
theorem d_Lexicon_kind_1 : decode b_Lexicon_kind 1 = .ok (.ifCond .lt 31, 3) := by decide +kernel
theorem d_Lexicon_kind_4 : decode b_Lexicon_kind 4 = .ok (.iload_n 1, 1) := by decide +kernel
theorem d_Lexicon_kind_5 : decode b_Lexicon_kind 5 = .ok (.bipush 86, 2) := by decide +kernel
theorem d_Lexicon_kind_7 : decode b_Lexicon_kind 7 = .ok (.if_icmp .ge 25, 3) := by decide +kernel
theorem d_Lexicon_kind_10 : decode b_Lexicon_kind 10 = .ok (.iload_n 2, 1) := by decide +kernel
theorem d_Lexicon_kind_11 : decode b_Lexicon_kind 11 = .ok (.ifCond .lt 21, 3) := by decide +kernel
theorem d_Lexicon_kind_14 : decode b_Lexicon_kind 14 = .ok (.iload_n 2, 1) := by decide +kernel
theorem d_Lexicon_kind_15 : decode b_Lexicon_kind 15 = .ok (.iconst 3, 1) := by decide +kernel
theorem d_Lexicon_kind_16 : decode b_Lexicon_kind 16 = .ok (.if_icmp .ge 16, 3) := by decide +kernel
theorem d_Lexicon_kind_19 : decode b_Lexicon_kind 19 = .ok (.aload_n 0, 1) := by decide +kernel
theorem d_Lexicon_kind_20 : decode b_Lexicon_kind 20 = .ok (.getfield 21, 3) := by decide +kernel
theorem d_Lexicon_kind_23 : decode b_Lexicon_kind 23 = .ok (.iload_n 1, 1) := by decide +kernel
theorem d_Lexicon_kind_24 : decode b_Lexicon_kind 24 = .ok (.iconst 3, 1) := by decide +kernel
theorem d_Lexicon_kind_25 : decode b_Lexicon_kind 25 = .ok (.imul, 1) := by decide +kernel
theorem d_Lexicon_kind_26 : decode b_Lexicon_kind 26 = .ok (.iload_n 2, 1) := by decide +kernel
theorem d_Lexicon_kind_27 : decode b_Lexicon_kind 27 = .ok (.iadd, 1) := by decide +kernel
theorem d_Lexicon_kind_28 : decode b_Lexicon_kind 28 = .ok (.iaload, 1) := by decide +kernel
theorem d_Lexicon_kind_29 : decode b_Lexicon_kind 29 = .ok (.goto 5, 3) := by decide +kernel
theorem d_Lexicon_kind_32 : decode b_Lexicon_kind 32 = .ok (.bipush 118, 2) := by decide +kernel
theorem d_Lexicon_kind_34 : decode b_Lexicon_kind 34 = .ok (.ireturn, 1) := by decide +kernel
theorem lk_Lexicon_21 : Cond.fieldLink "TurtleWorld$Lexicon" 21 "TurtleWorld$Lexicon" "kinds" "[I" ∈ tw_T := tw_i1 125 (by decide +kernel) (by decide +kernel)
theorem d_Lexicon_meaning_0 : decode b_Lexicon_meaning 0 = .ok (.iload_n 2, 1) := by decide +kernel
theorem d_Lexicon_meaning_1 : decode b_Lexicon_meaning 1 = .ok (.ifCond .lt 9, 3) := by decide +kernel
theorem d_Lexicon_meaning_4 : decode b_Lexicon_meaning 4 = .ok (.iload_n 2, 1) := by decide +kernel
theorem d_Lexicon_meaning_5 : decode b_Lexicon_meaning 5 = .ok (.aload_n 1, 1) := by decide +kernel
theorem d_Lexicon_meaning_6 : decode b_Lexicon_meaning 6 = .ok (.arraylength, 1) := by decide +kernel
theorem d_Lexicon_meaning_7 : decode b_Lexicon_meaning 7 = .ok (.if_icmp .lt 5, 3) := by decide +kernel
theorem d_Lexicon_meaning_10 : decode b_Lexicon_meaning 10 = .ok (.iconst 0, 1) := by decide +kernel
theorem d_Lexicon_meaning_11 : decode b_Lexicon_meaning 11 = .ok (.ireturn, 1) := by decide +kernel
theorem d_Lexicon_meaning_12 : decode b_Lexicon_meaning 12 = .ok (.aload_n 1, 1) := by decide +kernel
theorem d_Lexicon_meaning_13 : decode b_Lexicon_meaning 13 = .ok (.iload_n 2, 1) := by decide +kernel
theorem d_Lexicon_meaning_14 : decode b_Lexicon_meaning 14 = .ok (.iaload, 1) := by decide +kernel
theorem d_Lexicon_meaning_15 : decode b_Lexicon_meaning 15 = .ok (.bipush 34, 2) := by decide +kernel
theorem d_Lexicon_meaning_17 : decode b_Lexicon_meaning 17 = .ok (.if_icmp .ne 6, 3) := by decide +kernel
theorem d_Lexicon_meaning_20 : decode b_Lexicon_meaning 20 = .ok (.bipush 86, 2) := by decide +kernel
theorem d_Lexicon_meaning_22 : decode b_Lexicon_meaning 22 = .ok (.ireturn, 1) := by decide +kernel
theorem d_Lexicon_meaning_23 : decode b_Lexicon_meaning 23 = .ok (.aload_n 1, 1) := by decide +kernel
theorem d_Lexicon_meaning_24 : decode b_Lexicon_meaning 24 = .ok (.iload_n 2, 1) := by decide +kernel
theorem d_Lexicon_meaning_25 : decode b_Lexicon_meaning 25 = .ok (.iaload, 1) := by decide +kernel
theorem d_Lexicon_meaning_26 : decode b_Lexicon_meaning 26 = .ok (.bipush 58, 2) := by decide +kernel
theorem d_Lexicon_meaning_28 : decode b_Lexicon_meaning 28 = .ok (.if_icmp .ne 6, 3) := by decide +kernel
theorem d_Lexicon_meaning_31 : decode b_Lexicon_meaning 31 = .ok (.bipush 87, 2) := by decide +kernel
theorem d_Lexicon_meaning_33 : decode b_Lexicon_meaning 33 = .ok (.ireturn, 1) := by decide +kernel
theorem d_Lexicon_meaning_34 : decode b_Lexicon_meaning 34 = .ok (.aload_n 1, 1) := by decide +kernel
theorem d_Lexicon_meaning_35 : decode b_Lexicon_meaning 35 = .ok (.iload_n 2, 1) := by decide +kernel
theorem d_Lexicon_meaning_36 : decode b_Lexicon_meaning 36 = .ok (.invokestatic 73, 3) := by decide +kernel
theorem d_Lexicon_meaning_39 : decode b_Lexicon_meaning 39 = .ok (.istore_n 3, 1) := by decide +kernel
theorem d_Lexicon_meaning_40 : decode b_Lexicon_meaning 40 = .ok (.iconst 0, 1) := by decide +kernel
theorem d_Lexicon_meaning_41 : decode b_Lexicon_meaning 41 = .ok (.istore 4, 2) := by decide +kernel
theorem d_Lexicon_meaning_43 : decode b_Lexicon_meaning 43 = .ok (.iload 4, 2) := by decide +kernel
theorem d_Lexicon_meaning_45 : decode b_Lexicon_meaning 45 = .ok (.sipush 256, 3) := by decide +kernel
theorem d_Lexicon_meaning_48 : decode b_Lexicon_meaning 48 = .ok (.if_icmp .ge 43, 3) := by decide +kernel
theorem d_Lexicon_meaning_51 : decode b_Lexicon_meaning 51 = .ok (.aload_n 0, 1) := by decide +kernel
theorem d_Lexicon_meaning_52 : decode b_Lexicon_meaning 52 = .ok (.getfield 24, 3) := by decide +kernel
theorem d_Lexicon_meaning_55 : decode b_Lexicon_meaning 55 = .ok (.iload_n 3, 1) := by decide +kernel
theorem d_Lexicon_meaning_56 : decode b_Lexicon_meaning 56 = .ok (.iload 4, 2) := by decide +kernel
theorem d_Lexicon_meaning_58 : decode b_Lexicon_meaning 58 = .ok (.iadd, 1) := by decide +kernel
theorem d_Lexicon_meaning_59 : decode b_Lexicon_meaning 59 = .ok (.sipush 255, 3) := by decide +kernel
theorem d_Lexicon_meaning_62 : decode b_Lexicon_meaning 62 = .ok (.iand, 1) := by decide +kernel
theorem d_Lexicon_meaning_63 : decode b_Lexicon_meaning 63 = .ok (.iaload, 1) := by decide +kernel
theorem d_Lexicon_meaning_64 : decode b_Lexicon_meaning 64 = .ok (.istore 5, 2) := by decide +kernel
theorem d_Lexicon_meaning_66 : decode b_Lexicon_meaning 66 = .ok (.iload 5, 2) := by decide +kernel
theorem d_Lexicon_meaning_68 : decode b_Lexicon_meaning 68 = .ok (.ifCond .eq 14, 3) := by decide +kernel
theorem d_Lexicon_meaning_71 : decode b_Lexicon_meaning 71 = .ok (.aload_n 0, 1) := by decide +kernel
theorem d_Lexicon_meaning_72 : decode b_Lexicon_meaning 72 = .ok (.iload 5, 2) := by decide +kernel
theorem d_Lexicon_meaning_74 : decode b_Lexicon_meaning 74 = .ok (.aload_n 1, 1) := by decide +kernel
theorem d_Lexicon_meaning_75 : decode b_Lexicon_meaning 75 = .ok (.iload_n 2, 1) := by decide +kernel
theorem d_Lexicon_meaning_76 : decode b_Lexicon_meaning 76 = .ok (.invokevirtual 83, 3) := by decide +kernel
theorem d_Lexicon_meaning_79 : decode b_Lexicon_meaning 79 = .ok (.ifCond .eq 6, 3) := by decide +kernel
theorem d_Lexicon_meaning_82 : decode b_Lexicon_meaning 82 = .ok (.iload 5, 2) := by decide +kernel
theorem d_Lexicon_meaning_84 : decode b_Lexicon_meaning 84 = .ok (.ireturn, 1) := by decide +kernel
theorem d_Lexicon_meaning_85 : decode b_Lexicon_meaning 85 = .ok (.iinc 4 1, 3) := by decide +kernel
theorem d_Lexicon_meaning_88 : decode b_Lexicon_meaning 88 = .ok (.goto (-45), 3) := by decide +kernel
theorem d_Lexicon_meaning_91 : decode b_Lexicon_meaning 91 = .ok (.iconst 0, 1) := by decide +kernel
theorem d_Lexicon_meaning_92 : decode b_Lexicon_meaning 92 = .ok (.ireturn, 1) := by decide +kernel
theorem lk_Lexicon_73 : Cond.methodLink "TurtleWorld$Lexicon" 73 ⟨"TurtleWorld$Lexicon", "hashOf", "([II)I"⟩ ∈ tw_T := tw_i1 107 (by decide +kernel) (by decide +kernel)
theorem st_Lexicon_hashOf : Cond.static ⟨"TurtleWorld$Lexicon", "hashOf", "([II)I"⟩ ∈ tw_T := tw_i1 108 (by decide +kernel) (by decide +kernel)
theorem ini_Lexicon : Cond.initialized "TurtleWorld$Lexicon" ∈ tw_T := tw_i1 3 (by decide +kernel) (by decide +kernel)
theorem lk_Lexicon_24 : Cond.fieldLink "TurtleWorld$Lexicon" 24 "TurtleWorld$Lexicon" "slots" "[I" ∈ tw_T := tw_i1 126 (by decide +kernel) (by decide +kernel)
theorem lk_Lexicon_83 : Cond.methodLink "TurtleWorld$Lexicon" 83 ⟨"TurtleWorld$Lexicon", "isAt", "(I[II)Z"⟩ ∈ tw_T := tw_i1 190 (by decide +kernel) (by decide +kernel)
theorem in_Lexicon_isAt : Cond.instanceMethod ⟨"TurtleWorld$Lexicon", "isAt", "(I[II)Z"⟩ ∈ tw_T := tw_i1 192 (by decide +kernel) (by decide +kernel)
theorem sel_Lexicon_isAt : Cond.selects "TurtleWorld$Lexicon" ⟨"TurtleWorld$Lexicon", "isAt", "(I[II)Z"⟩ ⟨"TurtleWorld$Lexicon", "isAt", "(I[II)Z"⟩ ∈ tw_T := tw_inS 7 (by decide +kernel) (by decide +kernel)
theorem d_Heap_meaning_0 : decode b_Heap_meaning 0 = .ok (.iload_n 1, 1) := by decide +kernel
theorem d_Heap_meaning_1 : decode b_Heap_meaning 1 = .ok (.iconst 2, 1) := by decide +kernel
theorem d_Heap_meaning_2 : decode b_Heap_meaning 2 = .ok (.ishr, 1) := by decide +kernel
theorem d_Heap_meaning_3 : decode b_Heap_meaning 3 = .ok (.istore_n 2, 1) := by decide +kernel
theorem d_Heap_meaning_4 : decode b_Heap_meaning 4 = .ok (.iload_n 2, 1) := by decide +kernel
theorem d_Heap_meaning_5 : decode b_Heap_meaning 5 = .ok (.ifCond .le 12, 3) := by decide +kernel
theorem d_Heap_meaning_8 : decode b_Heap_meaning 8 = .ok (.iload_n 2, 1) := by decide +kernel
theorem d_Heap_meaning_9 : decode b_Heap_meaning 9 = .ok (.aload_n 0, 1) := by decide +kernel
theorem d_Heap_meaning_10 : decode b_Heap_meaning 10 = .ok (.getfield 11, 3) := by decide +kernel
theorem d_Heap_meaning_13 : decode b_Heap_meaning 13 = .ok (.arraylength, 1) := by decide +kernel
theorem d_Heap_meaning_14 : decode b_Heap_meaning 14 = .ok (.if_icmp .lt 5, 3) := by decide +kernel
theorem d_Heap_meaning_17 : decode b_Heap_meaning 17 = .ok (.iconst 0, 1) := by decide +kernel
theorem d_Heap_meaning_18 : decode b_Heap_meaning 18 = .ok (.ireturn, 1) := by decide +kernel
theorem d_Heap_meaning_19 : decode b_Heap_meaning 19 = .ok (.aload_n 0, 1) := by decide +kernel
theorem d_Heap_meaning_20 : decode b_Heap_meaning 20 = .ok (.getfield 11, 3) := by decide +kernel
theorem d_Heap_meaning_23 : decode b_Heap_meaning 23 = .ok (.iload_n 2, 1) := by decide +kernel
theorem d_Heap_meaning_24 : decode b_Heap_meaning 24 = .ok (.iconst 1, 1) := by decide +kernel
theorem d_Heap_meaning_25 : decode b_Heap_meaning 25 = .ok (.isub, 1) := by decide +kernel
theorem d_Heap_meaning_26 : decode b_Heap_meaning 26 = .ok (.iaload, 1) := by decide +kernel
theorem d_Heap_meaning_27 : decode b_Heap_meaning 27 = .ok (.istore_n 3, 1) := by decide +kernel
theorem d_Heap_meaning_28 : decode b_Heap_meaning 28 = .ok (.iload_n 3, 1) := by decide +kernel
theorem d_Heap_meaning_29 : decode b_Heap_meaning 29 = .ok (.sipush 128, 3) := by decide +kernel
theorem d_Heap_meaning_32 : decode b_Heap_meaning 32 = .ok (.if_icmp .lt 11, 3) := by decide +kernel
theorem d_Heap_meaning_35 : decode b_Heap_meaning 35 = .ok (.iload_n 3, 1) := by decide +kernel
theorem d_Heap_meaning_36 : decode b_Heap_meaning 36 = .ok (.sipush 128, 3) := by decide +kernel
theorem d_Heap_meaning_39 : decode b_Heap_meaning 39 = .ok (.isub, 1) := by decide +kernel
theorem d_Heap_meaning_40 : decode b_Heap_meaning 40 = .ok (.goto 15, 3) := by decide +kernel
theorem d_Heap_meaning_43 : decode b_Heap_meaning 43 = .ok (.aload_n 0, 1) := by decide +kernel
theorem d_Heap_meaning_44 : decode b_Heap_meaning 44 = .ok (.getfield 31, 3) := by decide +kernel
theorem d_Heap_meaning_47 : decode b_Heap_meaning 47 = .ok (.aload_n 0, 1) := by decide +kernel
theorem d_Heap_meaning_48 : decode b_Heap_meaning 48 = .ok (.getfield 11, 3) := by decide +kernel
theorem d_Heap_meaning_51 : decode b_Heap_meaning 51 = .ok (.iload_n 2, 1) := by decide +kernel
theorem d_Heap_meaning_52 : decode b_Heap_meaning 52 = .ok (.invokevirtual 112, 3) := by decide +kernel
theorem d_Heap_meaning_55 : decode b_Heap_meaning 55 = .ok (.ireturn, 1) := by decide +kernel
theorem lk_Heap_31 : Cond.fieldLink "TurtleWorld$Heap" 31 "TurtleWorld$Heap" "lexicon" "LTurtleWorld$Lexicon;" ∈ tw_T := tw_i1 196 (by decide +kernel) (by decide +kernel)
theorem lk_Heap_112 : Cond.methodLink "TurtleWorld$Heap" 112 ⟨"TurtleWorld$Lexicon", "meaning", "([II)I"⟩ ∈ tw_T := tw_i1 186 (by decide +kernel) (by decide +kernel)
theorem in_Lexicon_meaning : Cond.instanceMethod ⟨"TurtleWorld$Lexicon", "meaning", "([II)I"⟩ ∈ tw_T := tw_i1 187 (by decide +kernel) (by decide +kernel)
theorem sel_Lexicon_meaning : Cond.selects "TurtleWorld$Lexicon" ⟨"TurtleWorld$Lexicon", "meaning", "([II)I"⟩ ⟨"TurtleWorld$Lexicon", "meaning", "([II)I"⟩ ∈ tw_T := tw_i1 188 (by decide +kernel) (by decide +kernel)
theorem kd_in {a b : Int32} (h0 : ¬ a < 0) (h1 : ¬ 86 ≤ a) (h2 : ¬ b < 0) (h3 : ¬ 3 ≤ b) : vp_in (a * 3 + b) 258 := by
  obtain ⟨j, hj, rfl⟩ := ts_nat (n := 86) (by decide) h0 h1
  obtain ⟨i, hi, rfl⟩ := ts_nat (n := 3) (by decide) h2 h3
  rw [show (3 : Int32) = nI 3 from rfl, pk_mul, nI_add]
  exact vp_in_nI (by omega) (by decide)

def m_Lexicon_meaning_L43_r (k_letters_v : Nat → Int32) (k_starts_v : Nat → Int32) (k_slots_v : Nat → Int32) (cl : Nat) (fr : Nat → Int32) (a : Int32) : Nat → Nat → Int32 → Int32
  | 0, _, _ => 0
  | n + 1, i, hs => if ((256 : Int32)) ≤ ((nI i)) then 0 else if (k_slots_v ((hs + (nI i)) &&& 255).toNatClampNeg) = ((0 : Int32)) then (k_slots_v ((hs + (nI i)) &&& 255).toNatClampNeg) else if ((m_Lexicon_isAt_r k_letters_v k_starts_v cl fr (k_slots_v ((hs + (nI i)) &&& 255).toNatClampNeg) a)) = ((0 : Int32)) then m_Lexicon_meaning_L43_r k_letters_v k_starts_v k_slots_v cl fr a n (i + 1) hs else (k_slots_v ((hs + (nI i)) &&& 255).toNatClampNeg)
def m_Lexicon_meaning_r (k_letters_v : Nat → Int32) (k_starts_v : Nat → Int32) (k_slots_v : Nat → Int32) (cl : Nat) (fr : Nat → Int32) (a : Int32) : Int32 := if a < ((0 : Int32)) then 0 else if a < ((nI cl)) then if ((fr a.toNatClampNeg)) = ((34 : Int32)) then 86 else if ((fr a.toNatClampNeg)) = ((58 : Int32)) then 87 else m_Lexicon_meaning_L43_r k_letters_v k_starts_v k_slots_v cl fr a (256 - 0 + 1) 0 ((m_Lexicon_hashOf_r cl fr a)) else 0
set_option maxHeartbeats 4000000 in
set_option maxRecDepth 100000 in
theorem lp_Lexicon_meaning_43 (l : Launch) (dC : Nat → ClassId) (dI : Nat → Nat → Nat) (h0 : Nat) (k_letters : Nat) (k_starts : Nat) (k_arities : Nat) (k_kinds : Nat) (k_slots : Nat) (k_words : Int32) (k_used : Int32) (k_letters_v : Nat → Int32) (k_starts_v : Nat → Int32) (k_slots_v : Nat → Int32) (cI : ClassId) (h1 : Nat) (cl : Nat) (fr : Nat → Int32) (a : Int32) (hcl : cl ≤ 340000) (hst : ∀ j : Nat, 0 ≤ (k_starts_v j).toInt ∧ (k_starts_v j).toInt ≤ 600) (hsl : ∀ j : Nat, vp_in (k_slots_v j) 86) {p : Program} {e : Env} {s : State} {m : MethodId} {below : List Frame} {meth : Method} {c : Code} {A : Nat → Prop} (hx : p.tables.exec = Jvm.exec) (hb : c.code = b_Lexicon_meaning) (hml : c.maxLocals = 6) (hown : s.vm.findClass R_Lexicon = some m.cls) (hts : ∀ w ∈ w_Lexicon_meaning, w.before ([.ref h0, .ref h1, .int a] : List Value).toArray s = true) (hK : va_K (dC, dI) classes [(cI, .int)] s) (hA : ∀ q : Nat, s.heap.size ≤ q → A q) (hr : meth.sig.returnType = (some .int)) (hlocks : meth.locks = false) (RV0 : Int32) : ∀ (n : Nat) (i : Nat) (hs : Int32), i ≤ 256 → 0 ≤ a.toInt → a.toInt < 1000000000 → 256 - i < n → m_Lexicon_meaning_L43_r k_letters_v k_starts_v k_slots_v cl fr a n i hs = RV0 → ∀ (H : Heap) (locs : List Loc) (ls : Array Slot), va_P (dC, dI) classes [(h0, .inr (2, [.ref k_letters, .ref k_starts, .ref k_arities, .ref k_kinds, .ref k_slots, .int k_words, .int k_used])), (k_letters, .inl (cI, 600, .inl k_letters_v)), (k_starts, .inl (cI, 86, .inl k_starts_v)), (k_slots, .inl (cI, 256, .inl k_slots_v)), (h1, .inl (cI, cl, .inl fr))] H → va_D A [(h0, .inr (2, [.ref k_letters, .ref k_starts, .ref k_arities, .ref k_kinds, .ref k_slots, .int k_words, .int k_used])), (k_letters, .inl (cI, 600, .inl k_letters_v)), (k_starts, .inl (cI, 86, .inl k_starts_v)), (k_slots, .inl (cI, 256, .inl k_slots_v)), (h1, .inl (cI, cl, .inl fr))] → va_S A s.heap H locs → lv_has ls 6 [(4, .int (nI i)), (3, .int hs), (0, .ref h0), (1, .ref h1), (2, .int a)] → W p l e ({ frames := 2, cells := 0, slots := 0, locals := 44 } : Room) s m ([.ref h0, .ref h1, .int a] : List Value).toArray below meth c H locs 0 0 (MQ below (va_Qi (fun (r : Int32) (_ : Unit) => r = RV0) (fun (_ : Unit) t => va_P (dC, dI) classes [(h0, .inr (2, [.ref k_letters, .ref k_starts, .ref k_arities, .ref k_kinds, .ref k_slots, .int k_words, .int k_used])), (k_letters, .inl (cI, 600, .inl k_letters_v)), (k_starts, .inl (cI, 86, .inl k_starts_v)), (k_slots, .inl (cI, 256, .inl k_slots_v)), (h1, .inl (cI, cl, .inl fr))] t.heap ∧ va_K (dC, dI) classes [(cI, .int)] t ∧ va_D A [(h0, .inr (2, [.ref k_letters, .ref k_starts, .ref k_arities, .ref k_kinds, .ref k_slots, .int k_words, .int k_used])), (k_letters, .inl (cI, 600, .inl k_letters_v)), (k_starts, .inl (cI, 86, .inl k_starts_v)), (k_slots, .inl (cI, 256, .inl k_slots_v)), (h1, .inl (cI, cl, .inl fr))]) A) ([.ref h0, .ref h1, .int a] : List Value).toArray s 0 0 A) (F0 m 43 ls []) := by
  have htt : ∀ w ∈ tw_T, w.before _ s = true := fun w h => hts w (List.mem_cons_of_mem _ h)
  intro n
  induction n with
  | zero =>
    intro i hs hi hb0 hb1 hmu
    exact absurd hmu (Nat.not_lt_zero _)
  | succ n ih =>
    intro i hs hi hb0 hb1 hmu hR0 H locs ls hP hD hS hl
    refine lv_iload hx hb d_Lexicon_meaning_43 (lv_at hl 0 rfl) ?_
    refine lv_sipush (v := 256) hx hb d_Lexicon_meaning_45 (by decide) ?_
    refine lv_icmp_ge (tgt := 91) hx hb d_Lexicon_meaning_48 (by decide) (fun c_1 => ?_) (fun c_1 => ?_)
    · refine lv_iconst (v := 0) hx hb d_Lexicon_meaning_91 (by decide) ?_
      have hP9 := hP.sub (ws' := [(h0, .inr (2, [.ref k_letters, .ref k_starts, .ref k_arities, .ref k_kinds, .ref k_slots, .int k_words, .int k_used])), (k_letters, .inl (cI, 600, .inl k_letters_v)), (k_starts, .inl (cI, 86, .inl k_starts_v)), (k_slots, .inl (cI, 256, .inl k_slots_v)), (h1, .inl (cI, cl, .inl fr))]) [0, 1, 2, 3, 4] rfl
      have hD9 := hD.sub (ws' := [(h0, .inr (2, [.ref k_letters, .ref k_starts, .ref k_arities, .ref k_kinds, .ref k_slots, .int k_words, .int k_used])), (k_letters, .inl (cI, 600, .inl k_letters_v)), (k_starts, .inl (cI, 86, .inl k_starts_v)), (k_slots, .inl (cI, 256, .inl k_slots_v)), (h1, .inl (cI, cl, .inl fr))]) [0, 1, 2, 3, 4] (by decide) rfl
      exact W.iret (v := 0) hx hb hr (fun t9 ht hW => ⟨⟨0, (), rfl, by rw [← hR0]; simp only [m_Lexicon_meaning_L43_r, if_pos c_1], by rw [ht]; exact hP9, va_K.moved hW.alike hK, hD9⟩, hS.F ht⟩) hS.2.2 d_Lexicon_meaning_92
    · refine lv_aload_n hx hb d_Lexicon_meaning_51 rfl (lv_at hl 2 rfl) ?_
      refine va_get (D := (dC, dI)) (ci := 2) (v := .ref k_slots) (C := R_Lexicon) (T := F_Lexicon) (N := 7) hx hb htt iw_Lexicon hown hK hP 0 rfl rfl 4 (by decide) (htt _ lk_Lexicon_24) (fun _ h9 => h9) rfl d_Lexicon_meaning_52 ?_
      refine lv_iload_n hx hb d_Lexicon_meaning_55 rfl (lv_at hl 1 rfl) ?_
      refine lv_iload hx hb d_Lexicon_meaning_56 (lv_at hl 0 rfl) ?_
      refine lv_iadd hx hb d_Lexicon_meaning_58 ?_
      refine lv_sipush (v := 255) hx hb d_Lexicon_meaning_59 (by decide) ?_
      refine lv_iand hx hb d_Lexicon_meaning_62 ?_
      have h_2 : vp_in ((hs + (nI i)) &&& 255) 256 := pk_andIn _ 8 (by decide) (by decide)
      refine va_iald hx hb hK hP 3 0 rfl rfl h_2 d_Lexicon_meaning_63 ?_
      refine lv_topi (fun x_3 ex_3 => ?_)
      refine lv_istore (lv' := [(5, .int x_3), (4, .int (nI i)), (3, .int hs), (0, .ref h0), (1, .ref h1), (2, .int a)]) hx hb d_Lexicon_meaning_64 hl (by decide) rfl (fun ls hl => ?_)
      refine lv_iload hx hb d_Lexicon_meaning_66 (lv_at hl 0 rfl) ?_
      refine lv_if_eq (tgt := 82) hx hb d_Lexicon_meaning_68 (by decide) (fun c_4 => ?_) (fun c_4 => ?_)
      · refine lv_iload hx hb d_Lexicon_meaning_82 (lv_at hl 0 rfl) ?_
        subst ex_3
        have hP9 := hP.sub (ws' := [(h0, .inr (2, [.ref k_letters, .ref k_starts, .ref k_arities, .ref k_kinds, .ref k_slots, .int k_words, .int k_used])), (k_letters, .inl (cI, 600, .inl k_letters_v)), (k_starts, .inl (cI, 86, .inl k_starts_v)), (k_slots, .inl (cI, 256, .inl k_slots_v)), (h1, .inl (cI, cl, .inl fr))]) [0, 1, 2, 3, 4] rfl
        have hD9 := hD.sub (ws' := [(h0, .inr (2, [.ref k_letters, .ref k_starts, .ref k_arities, .ref k_kinds, .ref k_slots, .int k_words, .int k_used])), (k_letters, .inl (cI, 600, .inl k_letters_v)), (k_starts, .inl (cI, 86, .inl k_starts_v)), (k_slots, .inl (cI, 256, .inl k_slots_v)), (h1, .inl (cI, cl, .inl fr))]) [0, 1, 2, 3, 4] (by decide) rfl
        exact W.iret (v := (k_slots_v ((hs + (nI i)) &&& 255).toNatClampNeg)) hx hb hr (fun t9 ht hW => ⟨⟨(k_slots_v ((hs + (nI i)) &&& 255).toNatClampNeg), (), rfl, by rw [← hR0]; simp only [m_Lexicon_meaning_L43_r, if_neg c_1, if_pos c_4], by rw [ht]; exact hP9, va_K.moved hW.alike hK, hD9⟩, hS.F ht⟩) hS.2.2 d_Lexicon_meaning_84
      · refine lv_aload_n hx hb d_Lexicon_meaning_71 rfl (lv_at hl 3 rfl) ?_
        refine lv_iload hx hb d_Lexicon_meaning_72 (lv_at hl 0 rfl) ?_
        refine lv_aload_n hx hb d_Lexicon_meaning_74 rfl (lv_at hl 4 rfl) ?_
        refine lv_iload_n hx hb d_Lexicon_meaning_75 rfl (lv_at hl 5 rfl) ?_
        have hPc := hP.sub (ws' := [(h0, .inr (2, [.ref k_letters, .ref k_starts, .ref k_arities, .ref k_kinds, .ref k_slots, .int k_words, .int k_used])), (k_letters, .inl (cI, 600, .inl k_letters_v)), (k_starts, .inl (cI, 86, .inl k_starts_v)), (h1, .inl (cI, cl, .inl fr))]) [0, 1, 2, 4] rfl
        have hDc := hD.sub (ws' := [(h0, .inr (2, [.ref k_letters, .ref k_starts, .ref k_arities, .ref k_kinds, .ref k_slots, .int k_words, .int k_used])), (k_letters, .inl (cI, 600, .inl k_letters_v)), (k_starts, .inl (cI, 86, .inl k_starts_v)), (h1, .inl (cI, cl, .inl fr))]) [0, 1, 2, 4] (by decide) rfl
        have hKc := hK.sub (tys' := [(cI, .int)]) [0] rfl
        have hFc := va_free (wc := [(h0, .inr (2, [.ref k_letters, .ref k_starts, .ref k_arities, .ref k_kinds, .ref k_slots, .int k_words, .int k_used])), (k_letters, .inl (cI, 600, .inl k_letters_v)), (k_starts, .inl (cI, 86, .inl k_starts_v)), (h1, .inl (cI, cl, .inl fr))]) hD hS hA [0, 1, 2, 4] rfl
        refine va_calli (va_runV (As := [.int x_3, .ref h1, .int a]) (rest := []) ⟨hx, hb, hml, hown, hts⟩ (c_Lexicon_isAt l dC dI H.size h0 k_letters k_starts k_arities k_kinds k_slots k_words k_used k_letters_v k_starts_v cI h1 cl fr x_3 a (by assumption) (by assumption) (by rw [ex_3]; exact hsl _) (by assumption) (by assumption)) (cwV 3 hts (tw_GV tw_cons cw_Lexicon_isAt lk_Lexicon_83 in_Lexicon_isAt sel_Lexicon_isAt ini_Lexicon) rfl rfl rfl (by decide +kernel) ⟨Nat.le_of_ble_eq_true rfl, Nat.le_of_ble_eq_true rfl⟩) ⟨fun a U g mk q => by obtain ⟨q0, q1, qP, qK, qD⟩ := q; exact ⟨q0, q1, qP, va_K.moved (u := U) (U := U.calling g mk a) (Vm.Alike.refl U.vm) qK, qD⟩, va_recv hKc hPc (ci := 2) (q0 := 0) rfl rfl, fun U hU hW => ⟨rfl, by rw [hU], by rw [hU]; exact hPc, va_K.moved hW.alike hKc, hDc.weaken (fun _ _ _ _ => trivial)⟩⟩ rfl rfl hl.1 rfl (lv_room (Nat.le_of_ble_eq_true rfl)) d_Lexicon_meaning_76 ⟨Nat.le_of_ble_eq_true rfl, Nat.le_of_ble_eq_true rfl⟩) hS (fun q _ h => hFc q h) hFc (fun r9 u9 t9 H1 locs ht hvm e9 hB hz1 hk1 hS => ?_)
        obtain ⟨hP1, hK1, hD1⟩ := hB
        rw [ht] at hP1
        obtain ⟨hP, hD⟩ := va_join (wr := [(k_slots, .inl (cI, 256, .inl k_slots_v))]) (w1 := [(h0, .inr (2, [.ref k_letters, .ref k_starts, .ref k_arities, .ref k_kinds, .ref k_slots, .int k_words, .int k_used])), (k_letters, .inl (cI, 600, .inl k_letters_v)), (k_starts, .inl (cI, 86, .inl k_starts_v)), (h1, .inl (cI, cl, .inl fr))]) hP hD [0, 1, 2, 4] [3] rfl rfl (by decide) (by decide) hk1 hFc hP1 hD1
        subst e9
        clear hP1 hD1 hK1 hvm hz1 hk1 hFc hKc hDc hPc
        subst ht
        generalize t9.heap = H at hP hS ⊢
        have hP : va_P (dC, dI) classes [(k_slots, .inl (cI, 256, .inl k_slots_v)), (h0, .inr (2, [.ref k_letters, .ref k_starts, .ref k_arities, .ref k_kinds, .ref k_slots, .int k_words, .int k_used])), (k_letters, .inl (cI, 600, .inl k_letters_v)), (k_starts, .inl (cI, 86, .inl k_starts_v)), (h1, .inl (cI, cl, .inl fr))] H := hP
        have hD : va_D A [(k_slots, .inl (cI, 256, .inl k_slots_v)), (h0, .inr (2, [.ref k_letters, .ref k_starts, .ref k_arities, .ref k_kinds, .ref k_slots, .int k_words, .int k_used])), (k_letters, .inl (cI, 600, .inl k_letters_v)), (k_starts, .inl (cI, 86, .inl k_starts_v)), (h1, .inl (cI, cl, .inl fr))] := hD
        refine lv_if_eq (tgt := 85) hx hb d_Lexicon_meaning_79 (by decide) (fun c_5 => ?_) (fun c_5 => ?_)
        · refine lv_iinc (v := nI (i + 1)) (lv' := [(4, .int (nI (i + 1))), (5, .int x_3), (3, .int hs), (0, .ref h0), (1, .ref h1), (2, .int a)]) hx hb d_Lexicon_meaning_85 hl (k := 1) rfl (nI_1 _) (by decide) rfl (fun ls hl => ?_)
          refine lv_goto (tgt := 43) hx hb d_Lexicon_meaning_88 (by decide) ?_
          exact ih (i + 1) hs (by have h8 := c_1; simp only [Int32.lt_iff_toInt_lt, Int32.le_iff_toInt_le, Int32.reduceToInt] at h8; rw [nI_toInt (by omega)] at h8; omega) (hb0) (hb1) (by have h8 := c_1; simp only [Int32.lt_iff_toInt_lt, Int32.le_iff_toInt_le, Int32.reduceToInt] at h8; rw [nI_toInt (by omega)] at h8; omega) (by subst ex_3; rw [← hR0]; simp only [m_Lexicon_meaning_L43_r, if_neg c_1, if_neg c_4, if_pos c_5]) _ _ _ (hP.sub [1, 2, 3, 0, 4] rfl) (hD.sub [1, 2, 3, 0, 4] (by decide) rfl) hS (lv_sub hl [0, 2, 3, 4, 5] rfl)
        · refine lv_iload hx hb d_Lexicon_meaning_82 (lv_at hl 0 rfl) ?_
          subst ex_3
          have hP9 := hP.sub (ws' := [(h0, .inr (2, [.ref k_letters, .ref k_starts, .ref k_arities, .ref k_kinds, .ref k_slots, .int k_words, .int k_used])), (k_letters, .inl (cI, 600, .inl k_letters_v)), (k_starts, .inl (cI, 86, .inl k_starts_v)), (k_slots, .inl (cI, 256, .inl k_slots_v)), (h1, .inl (cI, cl, .inl fr))]) [1, 2, 3, 0, 4] rfl
          have hD9 := hD.sub (ws' := [(h0, .inr (2, [.ref k_letters, .ref k_starts, .ref k_arities, .ref k_kinds, .ref k_slots, .int k_words, .int k_used])), (k_letters, .inl (cI, 600, .inl k_letters_v)), (k_starts, .inl (cI, 86, .inl k_starts_v)), (k_slots, .inl (cI, 256, .inl k_slots_v)), (h1, .inl (cI, cl, .inl fr))]) [1, 2, 3, 0, 4] (by decide) rfl
          exact W.iret (v := (k_slots_v ((hs + (nI i)) &&& 255).toNatClampNeg)) hx hb hr (fun t9 ht hW => ⟨⟨(k_slots_v ((hs + (nI i)) &&& 255).toNatClampNeg), (), rfl, by rw [← hR0]; simp only [m_Lexicon_meaning_L43_r, if_neg c_1, if_neg c_4, if_neg c_5], by rw [ht]; exact hP9, va_K.moved hW.alike hK, hD9⟩, hS.F ht⟩) hS.2.2 d_Lexicon_meaning_84

set_option maxHeartbeats 4000000 in
set_option maxRecDepth 100000 in
/-- what a WORD means -/
theorem c_Lexicon_meaning (l : Launch) (dC : Nat → ClassId) (dI : Nat → Nat → Nat) (sz : Nat) (h0 : Nat) (k_letters : Nat) (k_starts : Nat) (k_arities : Nat) (k_kinds : Nat) (k_slots : Nat) (k_words : Int32) (k_used : Int32) (k_letters_v : Nat → Int32) (k_starts_v : Nat → Int32) (k_slots_v : Nat → Int32) (cI : ClassId) (h1 : Nat) (cl : Nat) (fr : Nat → Int32) (a : Int32) (hcl : cl ≤ 340000) (hst : ∀ j : Nat, 0 ≤ (k_starts_v j).toInt ∧ (k_starts_v j).toInt ≤ 600) (hsl : ∀ j : Nat, vp_in (k_slots_v j) 86) : Met l y_Lexicon_meaning w_Lexicon_meaning ({ frames := 2, cells := 0, slots := 0, locals := 44 }) (va_Pc [.ref h0, .ref h1, .int a] (fun U => U.heap.size = sz ∧ va_P (dC, dI) classes [(h0, .inr (2, [.ref k_letters, .ref k_starts, .ref k_arities, .ref k_kinds, .ref k_slots, .int k_words, .int k_used])), (k_letters, .inl (cI, 600, .inl k_letters_v)), (k_starts, .inl (cI, 86, .inl k_starts_v)), (k_slots, .inl (cI, 256, .inl k_slots_v)), (h1, .inl (cI, cl, .inl fr))] U.heap ∧ va_K (dC, dI) classes [(cI, .int)] U ∧ va_D (fun _ => True) [(h0, .inr (2, [.ref k_letters, .ref k_starts, .ref k_arities, .ref k_kinds, .ref k_slots, .int k_words, .int k_used])), (k_letters, .inl (cI, 600, .inl k_letters_v)), (k_starts, .inl (cI, 86, .inl k_starts_v)), (k_slots, .inl (cI, 256, .inl k_slots_v)), (h1, .inl (cI, cl, .inl fr))])) (va_Qi (fun (r : Int32) (_ : Unit) => r = m_Lexicon_meaning_r k_letters_v k_starts_v k_slots_v cl fr a) (fun (_ : Unit) t => va_P (dC, dI) classes [(h0, .inr (2, [.ref k_letters, .ref k_starts, .ref k_arities, .ref k_kinds, .ref k_slots, .int k_words, .int k_used])), (k_letters, .inl (cI, 600, .inl k_letters_v)), (k_starts, .inl (cI, 86, .inl k_starts_v)), (k_slots, .inl (cI, 256, .inl k_slots_v)), (h1, .inl (cI, cl, .inl fr))] t.heap ∧ va_K (dC, dI) classes [(cI, .int)] t ∧ va_D (va_A [(h0, .inr (2, [.ref k_letters, .ref k_starts, .ref k_arities, .ref k_kinds, .ref k_slots, .int k_words, .int k_used])), (k_letters, .inl (cI, 600, .inl k_letters_v)), (k_starts, .inl (cI, 86, .inl k_starts_v)), (k_slots, .inl (cI, 256, .inl k_slots_v)), (h1, .inl (cI, cl, .inl fr))] sz) [(h0, .inr (2, [.ref k_letters, .ref k_starts, .ref k_arities, .ref k_kinds, .ref k_slots, .int k_words, .int k_used])), (k_letters, .inl (cI, 600, .inl k_letters_v)), (k_starts, .inl (cI, 86, .inl k_starts_v)), (k_slots, .inl (cI, 256, .inl k_slots_v)), (h1, .inl (cI, cl, .inl fr))]) (va_A [(h0, .inr (2, [.ref k_letters, .ref k_starts, .ref k_arities, .ref k_kinds, .ref k_slots, .int k_words, .int k_used])), (k_letters, .inl (cI, 600, .inl k_letters_v)), (k_starts, .inl (cI, 86, .inl k_starts_v)), (k_slots, .inl (cI, 256, .inl k_slots_v)), (h1, .inl (cI, cl, .inl fr))] sz)) 0 0 (va_A [(h0, .inr (2, [.ref k_letters, .ref k_starts, .ref k_arities, .ref k_kinds, .ref k_slots, .int k_words, .int k_used])), (k_letters, .inl (cI, 600, .inl k_letters_v)), (k_starts, .inl (cI, 86, .inl k_starts_v)), (k_slots, .inl (cI, 256, .inl k_slots_v)), (h1, .inl (cI, cl, .inl fr))] sz) := by
  refine Met.ofW (cc := b_Lexicon_meaning) (maxL := 6) (ret := (some .int)) (by decide) rfl ?_
  intro p e s m args below meth c s₁ B hml hv
  obtain ⟨rfl, hsz, hP, hK, hD0⟩ := hv
  have hx := B.exec
  have hb := B.bytes
  have hr := B.returns
  have hts := atoms_spec (ws := w_Lexicon_meaning) B.pre
  have htt : ∀ w ∈ tw_T, w.before _ s = true := fun w h => hts w (List.mem_cons_of_mem _ h)
  have hown : s.vm.findClass R_Lexicon = some m.cls := findClass_of_methodNamed B.named
  have hlocks := B.notSynchronized
  subst hsz
  have hD := hD0.self (sz := s.heap.size)
  generalize hAe : va_A [(h0, .inr (2, [.ref k_letters, .ref k_starts, .ref k_arities, .ref k_kinds, .ref k_slots, .int k_words, .int k_used])), (k_letters, .inl (cI, 600, .inl k_letters_v)), (k_starts, .inl (cI, 86, .inl k_starts_v)), (k_slots, .inl (cI, 256, .inl k_slots_v)), (h1, .inl (cI, cl, .inl fr))] s.heap.size = A at hD ⊢
  have hA : ∀ q : Nat, s.heap.size ≤ q → A q := fun q h => by rw [← hAe]; exact Or.inr h
  have hS : va_S A s.heap s.heap [] := va_S.rf
  have hP : va_P (dC, dI) classes [(h0, .inr (2, [.ref k_letters, .ref k_starts, .ref k_arities, .ref k_kinds, .ref k_slots, .int k_words, .int k_used])), (k_letters, .inl (cI, 600, .inl k_letters_v)), (k_starts, .inl (cI, 86, .inl k_starts_v)), (k_slots, .inl (cI, 256, .inl k_slots_v)), (h1, .inl (cI, cl, .inl fr))] s.heap := hP
  have hl := lv_entry ([.ref h0, .ref h1, .int a]) (n := 6) (Nat.le_of_ble_eq_true rfl)
  rw [lg_entry_eq]
  generalize (lg_sl ([.ref h0, .ref h1, .int a]) ++ List.replicate (6 - (lg_sl ([.ref h0, .ref h1, .int a])).length) Slot.unset).toArray = ls at hl ⊢
  have hl : lv_has ls 6 [(0, .ref h0), (1, .ref h1), (2, .int a)] := hl
  refine lv_iload_n hx hb d_Lexicon_meaning_0 rfl (lv_at hl 2 rfl) ?_
  refine lv_if_lt (tgt := 10) hx hb d_Lexicon_meaning_1 (by decide) (fun c_1 => ?_) (fun c_1 => ?_)
  · refine lv_iconst (v := 0) hx hb d_Lexicon_meaning_10 (by decide) ?_
    have hP9 := hP.sub (ws' := [(h0, .inr (2, [.ref k_letters, .ref k_starts, .ref k_arities, .ref k_kinds, .ref k_slots, .int k_words, .int k_used])), (k_letters, .inl (cI, 600, .inl k_letters_v)), (k_starts, .inl (cI, 86, .inl k_starts_v)), (k_slots, .inl (cI, 256, .inl k_slots_v)), (h1, .inl (cI, cl, .inl fr))]) [0, 1, 2, 3, 4] rfl
    have hD9 := hD.sub (ws' := [(h0, .inr (2, [.ref k_letters, .ref k_starts, .ref k_arities, .ref k_kinds, .ref k_slots, .int k_words, .int k_used])), (k_letters, .inl (cI, 600, .inl k_letters_v)), (k_starts, .inl (cI, 86, .inl k_starts_v)), (k_slots, .inl (cI, 256, .inl k_slots_v)), (h1, .inl (cI, cl, .inl fr))]) [0, 1, 2, 3, 4] (by decide) rfl
    exact W.iret (v := 0) hx hb hr (fun t9 ht hW => ⟨⟨0, (), rfl, by unfold m_Lexicon_meaning_r; simp only [if_pos c_1], by rw [ht]; exact hP9, va_K.moved hW.alike hK, hD9⟩, hS.F ht⟩) hS.2.2 d_Lexicon_meaning_11
  · refine lv_iload_n hx hb d_Lexicon_meaning_4 rfl (lv_at hl 2 rfl) ?_
    refine lv_aload_n hx hb d_Lexicon_meaning_5 rfl (lv_at hl 1 rfl) ?_
    refine va_alen (v := nI cl) hx hb hK hP 4 0 rfl rfl rfl d_Lexicon_meaning_6 ?_
    refine lv_icmp_lt (tgt := 12) hx hb d_Lexicon_meaning_7 (by decide) (fun c_2 => ?_) (fun c_2 => ?_)
    · refine lv_aload_n hx hb d_Lexicon_meaning_12 rfl (lv_at hl 1 rfl) ?_
      refine lv_iload_n hx hb d_Lexicon_meaning_13 rfl (lv_at hl 2 rfl) ?_
      have h_3 : vp_in a cl := by rw [vp_in_iff]; simp only [Int32.lt_iff_toInt_lt, Int32.le_iff_toInt_le, Int32.reduceToInt, nI_toInt (show cl < 2 ^ 31 by omega)] at c_1 c_2 ⊢; omega
      refine va_iald hx hb hK hP 4 0 rfl rfl h_3 d_Lexicon_meaning_14 ?_
      refine lv_bipush (v := 34) hx hb d_Lexicon_meaning_15 (by decide) ?_
      refine lv_icmp_ne (tgt := 23) hx hb d_Lexicon_meaning_17 (by decide) (fun c_4 => ?_) (fun c_4 => ?_)
      · refine lv_aload_n hx hb d_Lexicon_meaning_23 rfl (lv_at hl 1 rfl) ?_
        refine lv_iload_n hx hb d_Lexicon_meaning_24 rfl (lv_at hl 2 rfl) ?_
        have h_5 : vp_in a cl := by rw [vp_in_iff]; simp only [Int32.lt_iff_toInt_lt, Int32.le_iff_toInt_le, Int32.reduceToInt, nI_toInt (show cl < 2 ^ 31 by omega)] at c_1 c_2 c_4 ⊢; omega
        refine va_iald hx hb hK hP 4 0 rfl rfl h_5 d_Lexicon_meaning_25 ?_
        refine lv_bipush (v := 58) hx hb d_Lexicon_meaning_26 (by decide) ?_
        refine lv_icmp_ne (tgt := 34) hx hb d_Lexicon_meaning_28 (by decide) (fun c_6 => ?_) (fun c_6 => ?_)
        · refine lv_aload_n hx hb d_Lexicon_meaning_34 rfl (lv_at hl 1 rfl) ?_
          refine lv_iload_n hx hb d_Lexicon_meaning_35 rfl (lv_at hl 2 rfl) ?_
          have hPc := hP.sub (ws' := [(h1, .inl (cI, cl, .inl fr))]) [4] rfl
          have hDc := hD.sub (ws' := [(h1, .inl (cI, cl, .inl fr))]) [4] (by decide) rfl
          have hKc := hK.sub (tys' := [(cI, .int)]) [0] rfl
          have hFc := va_free (wc := [(h1, .inl (cI, cl, .inl fr))]) hD hS hA [4] rfl
          refine va_calli (va_runS (As := [.ref h1, .int a]) (rest := []) ⟨hx, hb, hml, hown, hts⟩ (c_Lexicon_hashOf l dC dI s.heap.size h1 cI cl fr a (by assumption)) (va_cwS 2 hts (tw_GS tw_cons cw_Lexicon_hashOf lk_Lexicon_73 st_Lexicon_hashOf ini_Lexicon) rfl rfl rfl (by decide +kernel) ⟨Nat.le_of_ble_eq_true rfl, Nat.le_of_ble_eq_true rfl⟩) ⟨fun a U g mk q => by obtain ⟨q0, q1, qP, qK, qD⟩ := q; exact ⟨q0, q1, qP, va_K.moved (u := U) (U := U.calling g mk a) (Vm.Alike.refl U.vm) qK, qD⟩, fun U hU hW => ⟨rfl, by rw [hU], by rw [hU]; exact hPc, va_K.moved hW.alike hKc, hDc.weaken (fun _ _ _ _ => trivial)⟩⟩ rfl rfl hl.1 rfl (lv_room (Nat.le_of_ble_eq_true rfl)) d_Lexicon_meaning_36 ⟨Nat.le_of_ble_eq_true rfl, Nat.le_of_ble_eq_true rfl⟩) hS (fun q _ h => hFc q h) hFc (fun r9 u9 t9 H1 locs ht hvm e9 hB hz1 hk1 hS => ?_)
          obtain ⟨hP1, hK1, hD1⟩ := hB
          rw [ht] at hP1
          obtain ⟨hP, hD⟩ := va_join (wr := [(h0, .inr (2, [.ref k_letters, .ref k_starts, .ref k_arities, .ref k_kinds, .ref k_slots, .int k_words, .int k_used])), (k_letters, .inl (cI, 600, .inl k_letters_v)), (k_starts, .inl (cI, 86, .inl k_starts_v)), (k_slots, .inl (cI, 256, .inl k_slots_v))]) (w1 := [(h1, .inl (cI, cl, .inl fr))]) hP hD [4] [0, 1, 2, 3] rfl rfl (by decide) (by decide) hk1 hFc hP1 hD1
          subst e9
          clear hP1 hD1 hK1 hvm hz1 hk1 hFc hKc hDc hPc
          subst ht
          generalize t9.heap = H at hP hS ⊢
          have hP : va_P (dC, dI) classes [(h0, .inr (2, [.ref k_letters, .ref k_starts, .ref k_arities, .ref k_kinds, .ref k_slots, .int k_words, .int k_used])), (k_letters, .inl (cI, 600, .inl k_letters_v)), (k_starts, .inl (cI, 86, .inl k_starts_v)), (k_slots, .inl (cI, 256, .inl k_slots_v)), (h1, .inl (cI, cl, .inl fr))] H := hP
          have hD : va_D A [(h0, .inr (2, [.ref k_letters, .ref k_starts, .ref k_arities, .ref k_kinds, .ref k_slots, .int k_words, .int k_used])), (k_letters, .inl (cI, 600, .inl k_letters_v)), (k_starts, .inl (cI, 86, .inl k_starts_v)), (k_slots, .inl (cI, 256, .inl k_slots_v)), (h1, .inl (cI, cl, .inl fr))] := hD
          refine lv_topi (fun x_7 ex_7 => ?_)
          refine lv_istore_n (lv' := [(3, .int x_7), (0, .ref h0), (1, .ref h1), (2, .int a)]) hx hb d_Lexicon_meaning_39 rfl hl (by decide) rfl (fun ls hl => ?_)
          refine lv_iconst (v := 0) hx hb d_Lexicon_meaning_40 (by decide) ?_
          refine lv_istore (lv' := [(4, .int 0), (3, .int x_7), (0, .ref h0), (1, .ref h1), (2, .int a)]) hx hb d_Lexicon_meaning_41 hl (by decide) rfl (fun ls hl => ?_)
          exact lp_Lexicon_meaning_43 l dC dI h0 k_letters k_starts k_arities k_kinds k_slots k_words k_used k_letters_v k_starts_v k_slots_v cI h1 cl fr a hcl hst hsl hx hb hml hown hts hK hA hr hlocks (m_Lexicon_meaning_r k_letters_v k_starts_v k_slots_v cl fr a) (256 - 0 + 1) 0 x_7 (by omega) (by have h8 := c_1; simp only [Int32.lt_iff_toInt_lt, Int32.le_iff_toInt_le, Int32.reduceToInt] at h8; omega) (by have h8 := c_2; simp only [Int32.lt_iff_toInt_lt, Int32.le_iff_toInt_le, Int32.reduceToInt, nI_toInt (show cl < 2 ^ 31 by omega)] at h8; omega) (by exact Nat.lt_succ_self _) (by subst ex_7; unfold m_Lexicon_meaning_r; simp only [if_neg c_1, if_pos c_2, if_neg c_4, if_neg c_6]) _ _ _ (hP.sub [0, 1, 2, 3, 4] rfl) (hD.sub [0, 1, 2, 3, 4] (by decide) rfl) hS (lv_sub hl [0, 1, 2, 3, 4] rfl)
        · refine lv_bipush (v := 87) hx hb d_Lexicon_meaning_31 (by decide) ?_
          have hP9 := hP.sub (ws' := [(h0, .inr (2, [.ref k_letters, .ref k_starts, .ref k_arities, .ref k_kinds, .ref k_slots, .int k_words, .int k_used])), (k_letters, .inl (cI, 600, .inl k_letters_v)), (k_starts, .inl (cI, 86, .inl k_starts_v)), (k_slots, .inl (cI, 256, .inl k_slots_v)), (h1, .inl (cI, cl, .inl fr))]) [0, 1, 2, 3, 4] rfl
          have hD9 := hD.sub (ws' := [(h0, .inr (2, [.ref k_letters, .ref k_starts, .ref k_arities, .ref k_kinds, .ref k_slots, .int k_words, .int k_used])), (k_letters, .inl (cI, 600, .inl k_letters_v)), (k_starts, .inl (cI, 86, .inl k_starts_v)), (k_slots, .inl (cI, 256, .inl k_slots_v)), (h1, .inl (cI, cl, .inl fr))]) [0, 1, 2, 3, 4] (by decide) rfl
          exact W.iret (v := 87) hx hb hr (fun t9 ht hW => ⟨⟨87, (), rfl, by unfold m_Lexicon_meaning_r; simp only [if_neg c_1, if_pos c_2, if_neg c_4, if_pos c_6], by rw [ht]; exact hP9, va_K.moved hW.alike hK, hD9⟩, hS.F ht⟩) hS.2.2 d_Lexicon_meaning_33
      · refine lv_bipush (v := 86) hx hb d_Lexicon_meaning_20 (by decide) ?_
        have hP9 := hP.sub (ws' := [(h0, .inr (2, [.ref k_letters, .ref k_starts, .ref k_arities, .ref k_kinds, .ref k_slots, .int k_words, .int k_used])), (k_letters, .inl (cI, 600, .inl k_letters_v)), (k_starts, .inl (cI, 86, .inl k_starts_v)), (k_slots, .inl (cI, 256, .inl k_slots_v)), (h1, .inl (cI, cl, .inl fr))]) [0, 1, 2, 3, 4] rfl
        have hD9 := hD.sub (ws' := [(h0, .inr (2, [.ref k_letters, .ref k_starts, .ref k_arities, .ref k_kinds, .ref k_slots, .int k_words, .int k_used])), (k_letters, .inl (cI, 600, .inl k_letters_v)), (k_starts, .inl (cI, 86, .inl k_starts_v)), (k_slots, .inl (cI, 256, .inl k_slots_v)), (h1, .inl (cI, cl, .inl fr))]) [0, 1, 2, 3, 4] (by decide) rfl
        exact W.iret (v := 86) hx hb hr (fun t9 ht hW => ⟨⟨86, (), rfl, by unfold m_Lexicon_meaning_r; simp only [if_neg c_1, if_pos c_2, if_pos c_4], by rw [ht]; exact hP9, va_K.moved hW.alike hK, hD9⟩, hS.F ht⟩) hS.2.2 d_Lexicon_meaning_22
    · refine lv_iconst (v := 0) hx hb d_Lexicon_meaning_10 (by decide) ?_
      have hP9 := hP.sub (ws' := [(h0, .inr (2, [.ref k_letters, .ref k_starts, .ref k_arities, .ref k_kinds, .ref k_slots, .int k_words, .int k_used])), (k_letters, .inl (cI, 600, .inl k_letters_v)), (k_starts, .inl (cI, 86, .inl k_starts_v)), (k_slots, .inl (cI, 256, .inl k_slots_v)), (h1, .inl (cI, cl, .inl fr))]) [0, 1, 2, 3, 4] rfl
      have hD9 := hD.sub (ws' := [(h0, .inr (2, [.ref k_letters, .ref k_starts, .ref k_arities, .ref k_kinds, .ref k_slots, .int k_words, .int k_used])), (k_letters, .inl (cI, 600, .inl k_letters_v)), (k_starts, .inl (cI, 86, .inl k_starts_v)), (k_slots, .inl (cI, 256, .inl k_slots_v)), (h1, .inl (cI, cl, .inl fr))]) [0, 1, 2, 3, 4] (by decide) rfl
      exact W.iret (v := 0) hx hb hr (fun t9 ht hW => ⟨⟨0, (), rfl, by unfold m_Lexicon_meaning_r; simp only [if_neg c_1, if_neg c_2], by rw [ht]; exact hP9, va_K.moved hW.alike hK, hD9⟩, hS.F ht⟩) hS.2.2 d_Lexicon_meaning_11
