theorem d_Heap_reserve_0 : decode b_Heap_reserve 0 = .ok (.aload_n 0, 1) := by decide +kernel
theorem d_Heap_reserve_1 : decode b_Heap_reserve 1 = .ok (.getfield 18, 3) := by decide +kernel
theorem d_Heap_reserve_4 : decode b_Heap_reserve 4 = .ok (.iload_n 1, 1) := by decide +kernel
theorem d_Heap_reserve_5 : decode b_Heap_reserve 5 = .ok (.iadd, 1) := by decide +kernel
theorem d_Heap_reserve_6 : decode b_Heap_reserve 6 = .ok (.istore_n 2, 1) := by decide +kernel
theorem d_Heap_reserve_7 : decode b_Heap_reserve 7 = .ok (.iload_n 2, 1) := by decide +kernel
theorem d_Heap_reserve_8 : decode b_Heap_reserve 8 = .ok (.ldc 89, 2) := by decide +kernel
theorem d_Heap_reserve_10 : decode b_Heap_reserve 10 = .ok (.if_icmp .le 5, 3) := by decide +kernel
theorem d_Heap_reserve_13 : decode b_Heap_reserve 13 = .ok (.iconst 0, 1) := by decide +kernel
theorem d_Heap_reserve_14 : decode b_Heap_reserve 14 = .ok (.ireturn, 1) := by decide +kernel
theorem d_Heap_reserve_15 : decode b_Heap_reserve 15 = .ok (.iload_n 2, 1) := by decide +kernel
theorem d_Heap_reserve_16 : decode b_Heap_reserve 16 = .ok (.aload_n 0, 1) := by decide +kernel
theorem d_Heap_reserve_17 : decode b_Heap_reserve 17 = .ok (.getfield 11, 3) := by decide +kernel
theorem d_Heap_reserve_20 : decode b_Heap_reserve 20 = .ok (.arraylength, 1) := by decide +kernel
theorem d_Heap_reserve_21 : decode b_Heap_reserve 21 = .ok (.if_icmp .le 30, 3) := by decide +kernel
theorem d_Heap_reserve_24 : decode b_Heap_reserve 24 = .ok (.aload_n 0, 1) := by decide +kernel
theorem d_Heap_reserve_25 : decode b_Heap_reserve 25 = .ok (.aload_n 0, 1) := by decide +kernel
theorem d_Heap_reserve_26 : decode b_Heap_reserve 26 = .ok (.getfield 11, 3) := by decide +kernel
theorem d_Heap_reserve_29 : decode b_Heap_reserve 29 = .ok (.ldc 89, 2) := by decide +kernel
theorem d_Heap_reserve_31 : decode b_Heap_reserve 31 = .ok (.iconst 2, 1) := by decide +kernel
theorem d_Heap_reserve_32 : decode b_Heap_reserve 32 = .ok (.aload_n 0, 1) := by decide +kernel
theorem d_Heap_reserve_33 : decode b_Heap_reserve 33 = .ok (.getfield 11, 3) := by decide +kernel
theorem d_Heap_reserve_36 : decode b_Heap_reserve 36 = .ok (.arraylength, 1) := by decide +kernel
theorem d_Heap_reserve_37 : decode b_Heap_reserve 37 = .ok (.imul, 1) := by decide +kernel
theorem d_Heap_reserve_38 : decode b_Heap_reserve 38 = .ok (.iload_n 2, 1) := by decide +kernel
theorem d_Heap_reserve_39 : decode b_Heap_reserve 39 = .ok (.invokestatic 90, 3) := by decide +kernel
theorem d_Heap_reserve_42 : decode b_Heap_reserve 42 = .ok (.invokestatic 94, 3) := by decide +kernel
theorem d_Heap_reserve_45 : decode b_Heap_reserve 45 = .ok (.invokestatic 96, 3) := by decide +kernel
theorem d_Heap_reserve_48 : decode b_Heap_reserve 48 = .ok (.putfield 11, 3) := by decide +kernel
theorem d_Heap_reserve_51 : decode b_Heap_reserve 51 = .ok (.iconst 1, 1) := by decide +kernel
theorem d_Heap_reserve_52 : decode b_Heap_reserve 52 = .ok (.ireturn, 1) := by decide +kernel
theorem lk_Heap_18 : Cond.fieldLink "TurtleWorld$Heap" 18 "TurtleWorld$Heap" "top" "I" ∈ tw_T := tw_i1 210 (by decide +kernel) (by decide +kernel)
theorem lk_Heap_89 : Cond.constant "TurtleWorld$Heap" 89 340000 ∈ tw_T := tw_i1 165 (by decide +kernel) (by decide +kernel)
theorem d_Heap_newWord_0 : decode b_Heap_newWord 0 = .ok (.iload_n 2, 1) := by decide +kernel
theorem d_Heap_newWord_1 : decode b_Heap_newWord 1 = .ok (.ifCond .lt 26, 3) := by decide +kernel
theorem d_Heap_newWord_4 : decode b_Heap_newWord 4 = .ok (.iload_n 3, 1) := by decide +kernel
theorem d_Heap_newWord_5 : decode b_Heap_newWord 5 = .ok (.iconst 1, 1) := by decide +kernel
theorem d_Heap_newWord_6 : decode b_Heap_newWord 6 = .ok (.if_icmp .lt 21, 3) := by decide +kernel
theorem d_Heap_newWord_9 : decode b_Heap_newWord 9 = .ok (.iload_n 3, 1) := by decide +kernel
theorem d_Heap_newWord_10 : decode b_Heap_newWord 10 = .ok (.aload_n 1, 1) := by decide +kernel
theorem d_Heap_newWord_11 : decode b_Heap_newWord 11 = .ok (.arraylength, 1) := by decide +kernel
theorem d_Heap_newWord_12 : decode b_Heap_newWord 12 = .ok (.iload_n 2, 1) := by decide +kernel
theorem d_Heap_newWord_13 : decode b_Heap_newWord 13 = .ok (.isub, 1) := by decide +kernel
theorem d_Heap_newWord_14 : decode b_Heap_newWord 14 = .ok (.if_icmp .gt 13, 3) := by decide +kernel
theorem d_Heap_newWord_17 : decode b_Heap_newWord 17 = .ok (.aload_n 0, 1) := by decide +kernel
theorem d_Heap_newWord_18 : decode b_Heap_newWord 18 = .ok (.iload_n 3, 1) := by decide +kernel
theorem d_Heap_newWord_19 : decode b_Heap_newWord 19 = .ok (.iconst 2, 1) := by decide +kernel
theorem d_Heap_newWord_20 : decode b_Heap_newWord 20 = .ok (.iadd, 1) := by decide +kernel
theorem d_Heap_newWord_21 : decode b_Heap_newWord 21 = .ok (.invokevirtual 102, 3) := by decide +kernel
theorem d_Heap_newWord_24 : decode b_Heap_newWord 24 = .ok (.ifCond .ne 6, 3) := by decide +kernel
theorem d_Heap_newWord_27 : decode b_Heap_newWord 27 = .ok (.ldc 71, 2) := by decide +kernel
theorem d_Heap_newWord_29 : decode b_Heap_newWord 29 = .ok (.ireturn, 1) := by decide +kernel
theorem d_Heap_newWord_30 : decode b_Heap_newWord 30 = .ok (.aload_n 0, 1) := by decide +kernel
theorem d_Heap_newWord_31 : decode b_Heap_newWord 31 = .ok (.getfield 18, 3) := by decide +kernel
theorem d_Heap_newWord_34 : decode b_Heap_newWord 34 = .ok (.iconst 1, 1) := by decide +kernel
theorem d_Heap_newWord_35 : decode b_Heap_newWord 35 = .ok (.iadd, 1) := by decide +kernel
theorem d_Heap_newWord_36 : decode b_Heap_newWord 36 = .ok (.istore 4, 2) := by decide +kernel
theorem d_Heap_newWord_38 : decode b_Heap_newWord 38 = .ok (.aload_n 1, 1) := by decide +kernel
theorem d_Heap_newWord_39 : decode b_Heap_newWord 39 = .ok (.iload_n 2, 1) := by decide +kernel
theorem d_Heap_newWord_40 : decode b_Heap_newWord 40 = .ok (.aload_n 0, 1) := by decide +kernel
theorem d_Heap_newWord_41 : decode b_Heap_newWord 41 = .ok (.getfield 11, 3) := by decide +kernel
theorem d_Heap_newWord_44 : decode b_Heap_newWord 44 = .ok (.iload 4, 2) := by decide +kernel
theorem d_Heap_newWord_46 : decode b_Heap_newWord 46 = .ok (.iload_n 3, 1) := by decide +kernel
theorem d_Heap_newWord_47 : decode b_Heap_newWord 47 = .ok (.invokestatic 106, 3) := by decide +kernel
theorem d_Heap_newWord_50 : decode b_Heap_newWord 50 = .ok (.aload_n 0, 1) := by decide +kernel
theorem d_Heap_newWord_51 : decode b_Heap_newWord 51 = .ok (.getfield 11, 3) := by decide +kernel
theorem d_Heap_newWord_54 : decode b_Heap_newWord 54 = .ok (.iload 4, 2) := by decide +kernel
theorem d_Heap_newWord_56 : decode b_Heap_newWord 56 = .ok (.iload_n 3, 1) := by decide +kernel
theorem d_Heap_newWord_57 : decode b_Heap_newWord 57 = .ok (.iadd, 1) := by decide +kernel
theorem d_Heap_newWord_58 : decode b_Heap_newWord 58 = .ok (.iconst 0, 1) := by decide +kernel
theorem d_Heap_newWord_59 : decode b_Heap_newWord 59 = .ok (.iastore, 1) := by decide +kernel
theorem d_Heap_newWord_60 : decode b_Heap_newWord 60 = .ok (.aload_n 0, 1) := by decide +kernel
theorem d_Heap_newWord_61 : decode b_Heap_newWord 61 = .ok (.getfield 11, 3) := by decide +kernel
theorem d_Heap_newWord_64 : decode b_Heap_newWord 64 = .ok (.aload_n 0, 1) := by decide +kernel
theorem d_Heap_newWord_65 : decode b_Heap_newWord 65 = .ok (.getfield 18, 3) := by decide +kernel
theorem d_Heap_newWord_68 : decode b_Heap_newWord 68 = .ok (.sipush 128, 3) := by decide +kernel
theorem d_Heap_newWord_71 : decode b_Heap_newWord 71 = .ok (.aload_n 0, 1) := by decide +kernel
theorem d_Heap_newWord_72 : decode b_Heap_newWord 72 = .ok (.getfield 31, 3) := by decide +kernel
theorem d_Heap_newWord_75 : decode b_Heap_newWord 75 = .ok (.aload_n 0, 1) := by decide +kernel
theorem d_Heap_newWord_76 : decode b_Heap_newWord 76 = .ok (.getfield 11, 3) := by decide +kernel
theorem d_Heap_newWord_79 : decode b_Heap_newWord 79 = .ok (.iload 4, 2) := by decide +kernel
theorem d_Heap_newWord_81 : decode b_Heap_newWord 81 = .ok (.invokevirtual 112, 3) := by decide +kernel
theorem d_Heap_newWord_84 : decode b_Heap_newWord 84 = .ok (.iadd, 1) := by decide +kernel
theorem d_Heap_newWord_85 : decode b_Heap_newWord 85 = .ok (.iastore, 1) := by decide +kernel
theorem d_Heap_newWord_86 : decode b_Heap_newWord 86 = .ok (.aload_n 0, 1) := by decide +kernel
theorem d_Heap_newWord_87 : decode b_Heap_newWord 87 = .ok (.iload 4, 2) := by decide +kernel
theorem d_Heap_newWord_89 : decode b_Heap_newWord 89 = .ok (.iload_n 3, 1) := by decide +kernel
theorem d_Heap_newWord_90 : decode b_Heap_newWord 90 = .ok (.iadd, 1) := by decide +kernel
theorem d_Heap_newWord_91 : decode b_Heap_newWord 91 = .ok (.iconst 1, 1) := by decide +kernel
theorem d_Heap_newWord_92 : decode b_Heap_newWord 92 = .ok (.iadd, 1) := by decide +kernel
theorem d_Heap_newWord_93 : decode b_Heap_newWord 93 = .ok (.putfield 18, 3) := by decide +kernel
theorem d_Heap_newWord_96 : decode b_Heap_newWord 96 = .ok (.iload 4, 2) := by decide +kernel
theorem d_Heap_newWord_98 : decode b_Heap_newWord 98 = .ok (.iconst 2, 1) := by decide +kernel
theorem d_Heap_newWord_99 : decode b_Heap_newWord 99 = .ok (.ishl, 1) := by decide +kernel
theorem d_Heap_newWord_100 : decode b_Heap_newWord 100 = .ok (.iconst 3, 1) := by decide +kernel
theorem d_Heap_newWord_101 : decode b_Heap_newWord 101 = .ok (.ior, 1) := by decide +kernel
theorem d_Heap_newWord_102 : decode b_Heap_newWord 102 = .ok (.ireturn, 1) := by decide +kernel
theorem lk_Heap_102 : Cond.methodLink "TurtleWorld$Heap" 102 ⟨"TurtleWorld$Heap", "reserve", "(I)Z"⟩ ∈ tw_T := tw_i1 161 (by decide +kernel) (by decide +kernel)
theorem in_Heap_reserve : Cond.instanceMethod ⟨"TurtleWorld$Heap", "reserve", "(I)Z"⟩ ∈ tw_T := tw_i1 163 (by decide +kernel) (by decide +kernel)
theorem sel_Heap_reserve : Cond.selects "TurtleWorld$Heap" ⟨"TurtleWorld$Heap", "reserve", "(I)Z"⟩ ⟨"TurtleWorld$Heap", "reserve", "(I)Z"⟩ ∈ tw_T := tw_inS 6 (by decide +kernel) (by decide +kernel)
theorem lk_Heap_106 : Cond.methodLink "TurtleWorld$Heap" 106 ⟨"java/lang/System", "arraycopy", "(Ljava/lang/Object;ILjava/lang/Object;II)V"⟩ ∈ tw_T := tw_i1 185 (by decide +kernel) (by decide +kernel)
theorem d_Heap_newList_0 : decode b_Heap_newList 0 = .ok (.iload_n 1, 1) := by decide +kernel
theorem d_Heap_newList_1 : decode b_Heap_newList 1 = .ok (.ifCond .lt 20, 3) := by decide +kernel
theorem d_Heap_newList_4 : decode b_Heap_newList 4 = .ok (.iload_n 1, 1) := by decide +kernel
theorem d_Heap_newList_5 : decode b_Heap_newList 5 = .ok (.sipush 8191, 3) := by decide +kernel
theorem d_Heap_newList_8 : decode b_Heap_newList 8 = .ok (.if_icmp .gt 13, 3) := by decide +kernel
theorem d_Heap_newList_11 : decode b_Heap_newList 11 = .ok (.aload_n 0, 1) := by decide +kernel
theorem d_Heap_newList_12 : decode b_Heap_newList 12 = .ok (.iload_n 1, 1) := by decide +kernel
theorem d_Heap_newList_13 : decode b_Heap_newList 13 = .ok (.iconst 1, 1) := by decide +kernel
theorem d_Heap_newList_14 : decode b_Heap_newList 14 = .ok (.iadd, 1) := by decide +kernel
theorem d_Heap_newList_15 : decode b_Heap_newList 15 = .ok (.invokevirtual 102, 3) := by decide +kernel
theorem d_Heap_newList_18 : decode b_Heap_newList 18 = .ok (.ifCond .ne 6, 3) := by decide +kernel
theorem d_Heap_newList_21 : decode b_Heap_newList 21 = .ok (.ldc 71, 2) := by decide +kernel
theorem d_Heap_newList_23 : decode b_Heap_newList 23 = .ok (.ireturn, 1) := by decide +kernel
theorem d_Heap_newList_24 : decode b_Heap_newList 24 = .ok (.aload_n 0, 1) := by decide +kernel
theorem d_Heap_newList_25 : decode b_Heap_newList 25 = .ok (.getfield 18, 3) := by decide +kernel
theorem d_Heap_newList_28 : decode b_Heap_newList 28 = .ok (.istore_n 3, 1) := by decide +kernel
theorem d_Heap_newList_29 : decode b_Heap_newList 29 = .ok (.aload_n 0, 1) := by decide +kernel
theorem d_Heap_newList_30 : decode b_Heap_newList 30 = .ok (.getfield 11, 3) := by decide +kernel
theorem d_Heap_newList_33 : decode b_Heap_newList 33 = .ok (.iload_n 3, 1) := by decide +kernel
theorem d_Heap_newList_34 : decode b_Heap_newList 34 = .ok (.ldc 118, 2) := by decide +kernel
theorem d_Heap_newList_36 : decode b_Heap_newList 36 = .ok (.iload_n 2, 1) := by decide +kernel
theorem d_Heap_newList_37 : decode b_Heap_newList 37 = .ok (.bipush 13, 2) := by decide +kernel
theorem d_Heap_newList_39 : decode b_Heap_newList 39 = .ok (.ishl, 1) := by decide +kernel
theorem d_Heap_newList_40 : decode b_Heap_newList 40 = .ok (.ior, 1) := by decide +kernel
theorem d_Heap_newList_41 : decode b_Heap_newList 41 = .ok (.iload_n 1, 1) := by decide +kernel
theorem d_Heap_newList_42 : decode b_Heap_newList 42 = .ok (.ior, 1) := by decide +kernel
theorem d_Heap_newList_43 : decode b_Heap_newList 43 = .ok (.iastore, 1) := by decide +kernel
theorem d_Heap_newList_44 : decode b_Heap_newList 44 = .ok (.aload_n 0, 1) := by decide +kernel
theorem d_Heap_newList_45 : decode b_Heap_newList 45 = .ok (.iload_n 3, 1) := by decide +kernel
theorem d_Heap_newList_46 : decode b_Heap_newList 46 = .ok (.iconst 1, 1) := by decide +kernel
theorem d_Heap_newList_47 : decode b_Heap_newList 47 = .ok (.iadd, 1) := by decide +kernel
theorem d_Heap_newList_48 : decode b_Heap_newList 48 = .ok (.iload_n 1, 1) := by decide +kernel
theorem d_Heap_newList_49 : decode b_Heap_newList 49 = .ok (.iadd, 1) := by decide +kernel
theorem d_Heap_newList_50 : decode b_Heap_newList 50 = .ok (.putfield 18, 3) := by decide +kernel
theorem d_Heap_newList_53 : decode b_Heap_newList 53 = .ok (.iload_n 3, 1) := by decide +kernel
theorem d_Heap_newList_54 : decode b_Heap_newList 54 = .ok (.iconst 2, 1) := by decide +kernel
theorem d_Heap_newList_55 : decode b_Heap_newList 55 = .ok (.ishl, 1) := by decide +kernel
theorem d_Heap_newList_56 : decode b_Heap_newList 56 = .ok (.iconst 1, 1) := by decide +kernel
theorem d_Heap_newList_57 : decode b_Heap_newList 57 = .ok (.ior, 1) := by decide +kernel
theorem d_Heap_newList_58 : decode b_Heap_newList 58 = .ok (.ireturn, 1) := by decide +kernel
theorem lk_Heap_118 : Cond.constant "TurtleWorld$Heap" 118 1073741824 ∈ tw_T := tw_i4 72 (by decide +kernel) (by decide +kernel)
/-- so many cells more have their place -/
def nw_fit (top n : Int32) (cl : Nat) : Prop := 1 ≤ top.toInt ∧ 0 ≤ n.toInt ∧ top.toInt + n.toInt ≤ cl ∧ cl ≤ 340000
theorem nw_add {top n : Int32} {cl : Nat} (h : nw_fit top n cl) : (top + n).toInt = top.toInt + n.toInt := i32_add (by have := h.1; have := h.2.1; omega) (by have := h.2.2; omega)
theorem nw_le {top n : Int32} {cl : Nat} (h : nw_fit top n cl) : top + n ≤ 340000 := by
  rw [Int32.le_iff_toInt_le, nw_add h]; simp only [Int32.reduceToInt]; have := h.2.2; omega
theorem nw_leC {top n : Int32} {cl : Nat} (h : nw_fit top n cl) : top + n ≤ nI cl := by
  rw [Int32.le_iff_toInt_le, nw_add h, nI_toInt (by have := h.2.2; omega)]; have := h.2.2; omega
theorem nw_b2 {b : Int32} {top : Int32} {cl : Nat} (h1 : 0 ≤ b.toInt) (h : top.toInt + b.toInt + 2 ≤ cl) (h0 : 1 ≤ top.toInt) (hcl : cl ≤ 340000) : nw_fit top (b + 2) cl ∧ (b + 2).toInt = b.toInt + 2 := by
  have e : (b + 2).toInt = b.toInt + 2 := by
    rw [i32_add (by simp only [Int32.reduceToInt]; omega) (by simp only [Int32.reduceToInt]; omega)]; simp only [Int32.reduceToInt]
  exact ⟨⟨h0, by omega, by omega, hcl⟩, e⟩
/-- a WORD's letters have their place -/
def nw_word (top a b : Int32) (ll cl : Nat) : Prop := 1 ≤ top.toInt ∧ 0 ≤ a.toInt ∧ 1 ≤ b.toInt ∧ a.toInt + b.toInt ≤ ll ∧ ll < 2 ^ 31 ∧ top.toInt + b.toInt + 2 ≤ cl ∧ cl ≤ 340000
theorem nw_w1 {top a b : Int32} {ll cl : Nat} (h : nw_word top a b ll cl) : (top + 1).toInt = top.toInt + 1 ∧ (top + 1 + b).toInt = top.toInt + 1 + b.toInt ∧ (nI ll - a).toInt = ll - a.toInt := by
  obtain ⟨h1, h2, h3, h4, h5, h6, h7⟩ := h
  have e1 : (top + 1).toInt = top.toInt + 1 := up_step (by omega)
  refine ⟨e1, by rw [i32_add (by rw [e1]; omega) (by rw [e1]; omega), e1], ?_⟩
  rw [i32_sub (by rw [nI_toInt h5]; omega) (by rw [nI_toInt h5]; omega), nI_toInt h5]
theorem nw_nat {x : Int32} (h : 0 ≤ x.toInt) : (x.toNatClampNeg : Int) = x.toInt := by
  show ((x.toInt.toNat : Nat) : Int) = x.toInt
  omega

set_option maxHeartbeats 4000000 in
set_option maxRecDepth 100000 in
/-- cells more, where they have their place -/
theorem c_Heap_reserve_fit (l : Launch) (dC : Nat → ClassId) (dI : Nat → Nat → Nat) (sz : Nat) (h0 : Nat) (e_lexicon : Nat) (e_yes : Int32) (e_no : Int32) (e_errorTag : Int32) (e_fixed : Int32) (e_cells : Nat) (e_spare : Nat) (e_top : Int32) (e_spareTop : Int32) (e_leftLists : Nat) (e_rightLists : Nat) (e_nextMembers : Nat) (e_cells_v : Nat → Int32) (cI : ClassId) (cl : Nat) (a : Int32) (hfit : nw_fit e_top a cl) : Met l y_Heap_reserve w_Heap_reserve ({ frames := 0, cells := 0, slots := 0, locals := 0 }) (va_Pc [.ref h0, .int a] (fun U => U.heap.size = sz ∧ va_P (dC, dI) classes [(h0, .inr (1, [.ref e_lexicon, .int e_yes, .int e_no, .int e_errorTag, .int e_fixed, .ref e_cells, .ref e_spare, .int e_top, .int e_spareTop, .ref e_leftLists, .ref e_rightLists, .ref e_nextMembers])), (e_cells, .inl (cI, cl, .inl e_cells_v))] U.heap ∧ va_K (dC, dI) classes [(cI, .int)] U ∧ va_D (fun _ => True) [(h0, .inr (1, [.ref e_lexicon, .int e_yes, .int e_no, .int e_errorTag, .int e_fixed, .ref e_cells, .ref e_spare, .int e_top, .int e_spareTop, .ref e_leftLists, .ref e_rightLists, .ref e_nextMembers])), (e_cells, .inl (cI, cl, .inl e_cells_v))])) (va_Qi (fun (r : Int32) (_ : Unit) => r = 1) (fun (_ : Unit) t => va_P (dC, dI) classes [(h0, .inr (1, [.ref e_lexicon, .int e_yes, .int e_no, .int e_errorTag, .int e_fixed, .ref e_cells, .ref e_spare, .int e_top, .int e_spareTop, .ref e_leftLists, .ref e_rightLists, .ref e_nextMembers])), (e_cells, .inl (cI, cl, .inl e_cells_v))] t.heap ∧ va_K (dC, dI) classes [(cI, .int)] t ∧ va_D (va_A [(h0, .inr (1, [.ref e_lexicon, .int e_yes, .int e_no, .int e_errorTag, .int e_fixed, .ref e_cells, .ref e_spare, .int e_top, .int e_spareTop, .ref e_leftLists, .ref e_rightLists, .ref e_nextMembers])), (e_cells, .inl (cI, cl, .inl e_cells_v))] sz) [(h0, .inr (1, [.ref e_lexicon, .int e_yes, .int e_no, .int e_errorTag, .int e_fixed, .ref e_cells, .ref e_spare, .int e_top, .int e_spareTop, .ref e_leftLists, .ref e_rightLists, .ref e_nextMembers])), (e_cells, .inl (cI, cl, .inl e_cells_v))]) (va_A [(h0, .inr (1, [.ref e_lexicon, .int e_yes, .int e_no, .int e_errorTag, .int e_fixed, .ref e_cells, .ref e_spare, .int e_top, .int e_spareTop, .ref e_leftLists, .ref e_rightLists, .ref e_nextMembers])), (e_cells, .inl (cI, cl, .inl e_cells_v))] sz)) 0 0 (va_A [(h0, .inr (1, [.ref e_lexicon, .int e_yes, .int e_no, .int e_errorTag, .int e_fixed, .ref e_cells, .ref e_spare, .int e_top, .int e_spareTop, .ref e_leftLists, .ref e_rightLists, .ref e_nextMembers])), (e_cells, .inl (cI, cl, .inl e_cells_v))] sz) := by
  refine Met.ofW (cc := b_Heap_reserve) (maxL := 3) (ret := (some .boolean)) (by decide) rfl ?_
  intro p e s m args below meth c s₁ B hml hv
  obtain ⟨rfl, hsz, hP, hK, hD0⟩ := hv
  have hx := B.exec
  have hb := B.bytes
  have hr := B.returns
  have hts := atoms_spec (ws := w_Heap_reserve) B.pre
  have htt : ∀ w ∈ tw_T, w.before _ s = true := fun w h => hts w (List.mem_cons_of_mem _ h)
  have hown : s.vm.findClass R_Heap = some m.cls := findClass_of_methodNamed B.named
  have hlocks := B.notSynchronized
  subst hsz
  have hD := hD0.self (sz := s.heap.size)
  generalize hAe : va_A [(h0, .inr (1, [.ref e_lexicon, .int e_yes, .int e_no, .int e_errorTag, .int e_fixed, .ref e_cells, .ref e_spare, .int e_top, .int e_spareTop, .ref e_leftLists, .ref e_rightLists, .ref e_nextMembers])), (e_cells, .inl (cI, cl, .inl e_cells_v))] s.heap.size = A at hD ⊢
  have hA : ∀ q : Nat, s.heap.size ≤ q → A q := fun q h => by rw [← hAe]; exact Or.inr h
  have hS : va_S A s.heap s.heap [] := va_S.rf
  have hP : va_P (dC, dI) classes [(h0, .inr (1, [.ref e_lexicon, .int e_yes, .int e_no, .int e_errorTag, .int e_fixed, .ref e_cells, .ref e_spare, .int e_top, .int e_spareTop, .ref e_leftLists, .ref e_rightLists, .ref e_nextMembers])), (e_cells, .inl (cI, cl, .inl e_cells_v))] s.heap := hP
  have hl := lv_entry ([.ref h0, .int a]) (n := 3) (Nat.le_of_ble_eq_true rfl)
  rw [lg_entry_eq]
  generalize (lg_sl ([.ref h0, .int a]) ++ List.replicate (3 - (lg_sl ([.ref h0, .int a])).length) Slot.unset).toArray = ls at hl ⊢
  have hl : lv_has ls 3 [(0, .ref h0), (1, .int a)] := hl
  refine lv_aload_n hx hb d_Heap_reserve_0 rfl (lv_at hl 0 rfl) ?_
  refine va_get (D := (dC, dI)) (ci := 1) (v := .int e_top) (C := R_Heap) (T := F_Heap) (N := 12) hx hb htt iw_Heap hown hK hP 0 rfl rfl 7 (by decide) (htt _ lk_Heap_18) (fun _ h9 => h9) rfl d_Heap_reserve_1 ?_
  refine lv_iload_n hx hb d_Heap_reserve_4 rfl (lv_at hl 1 rfl) ?_
  refine lv_iadd hx hb d_Heap_reserve_5 ?_
  refine lv_topi (fun x_1 ex_1 => ?_)
  refine lv_istore_n (lv' := [(2, .int x_1), (0, .ref h0), (1, .int a)]) hx hb d_Heap_reserve_6 rfl hl (by decide) rfl (fun ls hl => ?_)
  refine lv_iload_n hx hb d_Heap_reserve_7 rfl (lv_at hl 0 rfl) ?_
  refine lv_ldc (v := 340000) hx hb hown (htt _ lk_Heap_89) d_Heap_reserve_8 ?_
  refine lv_icmp_le (tgt := 15) hx hb d_Heap_reserve_10 (by decide) (fun c_2 => ?_) (fun c_2 => ?_)
  · refine lv_iload_n hx hb d_Heap_reserve_15 rfl (lv_at hl 0 rfl) ?_
    refine lv_aload_n hx hb d_Heap_reserve_16 rfl (lv_at hl 1 rfl) ?_
    refine va_get (D := (dC, dI)) (ci := 1) (v := .ref e_cells) (C := R_Heap) (T := F_Heap) (N := 12) hx hb htt iw_Heap hown hK hP 0 rfl rfl 5 (by decide) (htt _ lk_Heap_11) (fun _ h9 => h9) rfl d_Heap_reserve_17 ?_
    refine va_alen (v := nI cl) hx hb hK hP 1 0 rfl rfl rfl d_Heap_reserve_20 ?_
    refine lv_icmp_le (tgt := 51) hx hb d_Heap_reserve_21 (by decide) (fun c_3 => ?_) (fun c_3 => ?_)
    · refine lv_iconst (v := 1) hx hb d_Heap_reserve_51 (by decide) ?_
      have hP9 := hP.sub (ws' := [(h0, .inr (1, [.ref e_lexicon, .int e_yes, .int e_no, .int e_errorTag, .int e_fixed, .ref e_cells, .ref e_spare, .int e_top, .int e_spareTop, .ref e_leftLists, .ref e_rightLists, .ref e_nextMembers])), (e_cells, .inl (cI, cl, .inl e_cells_v))]) [0, 1] rfl
      have hD9 := hD.sub (ws' := [(h0, .inr (1, [.ref e_lexicon, .int e_yes, .int e_no, .int e_errorTag, .int e_fixed, .ref e_cells, .ref e_spare, .int e_top, .int e_spareTop, .ref e_leftLists, .ref e_rightLists, .ref e_nextMembers])), (e_cells, .inl (cI, cl, .inl e_cells_v))]) [0, 1] (by decide) rfl
      exact W.zret (v := 1) hx hb hr (by decide) (fun t9 ht hW => ⟨⟨1, (), rfl, rfl, by rw [ht]; exact hP9, va_K.moved hW.alike hK, hD9⟩, hS.F ht⟩) hS.2.2 d_Heap_reserve_52
    · exact absurd (by rw [ex_1]; exact nw_leC hfit) c_3
  · exact absurd (by rw [ex_1]; exact nw_le hfit) c_2

def m_Heap_newWord_r (e_top : Int32) : Int32 := ((e_top + 1) <<< ((2 : Int32) &&& 31)) ||| 3
def m_Heap_newWord_w0_7 (e_top : Int32) (b : Int32) : Int32 := (((e_top + 1) + b) + 1)
def m_Heap_newWord_w1 (e_top : Int32) (e_cells_v : Nat → Int32) (cl : Nat) (k_letters_v : Nat → Int32) (k_starts_v : Nat → Int32) (k_slots_v : Nat → Int32) (lt : Nat → Int32) (a : Int32) (b : Int32) : Nat → Int32 := upd ((upd (va_cpy lt e_cells_v a.toNatClampNeg (e_top + 1).toNatClampNeg b.toNatClampNeg) ((e_top + 1) + b).toNatClampNeg 0)) e_top.toNatClampNeg (128 + (m_Lexicon_meaning_r k_letters_v k_starts_v k_slots_v cl (upd (va_cpy lt e_cells_v a.toNatClampNeg (e_top + 1).toNatClampNeg b.toNatClampNeg) ((e_top + 1) + b).toNatClampNeg 0) (e_top + 1)))
set_option maxHeartbeats 4000000 in
set_option maxRecDepth 100000 in
/-- a WORD is made, where it has its place -/
theorem c_Heap_newWord_fit (l : Launch) (dC : Nat → ClassId) (dI : Nat → Nat → Nat) (sz : Nat) (h0 : Nat) (e_lexicon : Nat) (e_yes : Int32) (e_no : Int32) (e_errorTag : Int32) (e_fixed : Int32) (e_cells : Nat) (e_spare : Nat) (e_top : Int32) (e_spareTop : Int32) (e_leftLists : Nat) (e_rightLists : Nat) (e_nextMembers : Nat) (e_cells_v : Nat → Int32) (cI : ClassId) (cl : Nat) (k_letters : Nat) (k_starts : Nat) (k_arities : Nat) (k_kinds : Nat) (k_slots : Nat) (k_words : Int32) (k_used : Int32) (k_letters_v : Nat → Int32) (k_starts_v : Nat → Int32) (k_slots_v : Nat → Int32) (h1 : Nat) (ll : Nat) (lt : Nat → Int32) (a : Int32) (b : Int32) (hfw : nw_word e_top a b ll cl) (hst : ∀ j : Nat, 0 ≤ (k_starts_v j).toInt ∧ (k_starts_v j).toInt ≤ 600) (hsl : ∀ j : Nat, vp_in (k_slots_v j) 86) : Met l y_Heap_newWord w_Heap_newWord ({ frames := 3, cells := 0, slots := 0, locals := 69 }) (va_Pc [.ref h0, .ref h1, .int a, .int b] (fun U => U.heap.size = sz ∧ va_P (dC, dI) classes [(h0, .inr (1, [.ref e_lexicon, .int e_yes, .int e_no, .int e_errorTag, .int e_fixed, .ref e_cells, .ref e_spare, .int e_top, .int e_spareTop, .ref e_leftLists, .ref e_rightLists, .ref e_nextMembers])), (e_cells, .inl (cI, cl, .inl e_cells_v)), (e_lexicon, .inr (2, [.ref k_letters, .ref k_starts, .ref k_arities, .ref k_kinds, .ref k_slots, .int k_words, .int k_used])), (k_letters, .inl (cI, 600, .inl k_letters_v)), (k_starts, .inl (cI, 86, .inl k_starts_v)), (k_slots, .inl (cI, 256, .inl k_slots_v)), (h1, .inl (cI, ll, .inl lt))] U.heap ∧ va_K (dC, dI) classes [(cI, .int)] U ∧ va_D (fun _ => True) [(h0, .inr (1, [.ref e_lexicon, .int e_yes, .int e_no, .int e_errorTag, .int e_fixed, .ref e_cells, .ref e_spare, .int e_top, .int e_spareTop, .ref e_leftLists, .ref e_rightLists, .ref e_nextMembers])), (e_cells, .inl (cI, cl, .inl e_cells_v)), (e_lexicon, .inr (2, [.ref k_letters, .ref k_starts, .ref k_arities, .ref k_kinds, .ref k_slots, .int k_words, .int k_used])), (k_letters, .inl (cI, 600, .inl k_letters_v)), (k_starts, .inl (cI, 86, .inl k_starts_v)), (k_slots, .inl (cI, 256, .inl k_slots_v)), (h1, .inl (cI, ll, .inl lt))])) (va_Qi (fun (r : Int32) (_ : Unit) => r = m_Heap_newWord_r e_top) (fun (_ : Unit) t => va_P (dC, dI) classes [(h0, .inr (1, [.ref e_lexicon, .int e_yes, .int e_no, .int e_errorTag, .int e_fixed, .ref e_cells, .ref e_spare, .int (m_Heap_newWord_w0_7 e_top b), .int e_spareTop, .ref e_leftLists, .ref e_rightLists, .ref e_nextMembers])), (e_cells, .inl (cI, cl, .inl (m_Heap_newWord_w1 e_top e_cells_v cl k_letters_v k_starts_v k_slots_v lt a b))), (e_lexicon, .inr (2, [.ref k_letters, .ref k_starts, .ref k_arities, .ref k_kinds, .ref k_slots, .int k_words, .int k_used])), (k_letters, .inl (cI, 600, .inl k_letters_v)), (k_starts, .inl (cI, 86, .inl k_starts_v)), (k_slots, .inl (cI, 256, .inl k_slots_v)), (h1, .inl (cI, ll, .inl lt))] t.heap ∧ va_K (dC, dI) classes [(cI, .int)] t ∧ va_D (va_A [(h0, .inr (1, [.ref e_lexicon, .int e_yes, .int e_no, .int e_errorTag, .int e_fixed, .ref e_cells, .ref e_spare, .int e_top, .int e_spareTop, .ref e_leftLists, .ref e_rightLists, .ref e_nextMembers])), (e_cells, .inl (cI, cl, .inl e_cells_v)), (e_lexicon, .inr (2, [.ref k_letters, .ref k_starts, .ref k_arities, .ref k_kinds, .ref k_slots, .int k_words, .int k_used])), (k_letters, .inl (cI, 600, .inl k_letters_v)), (k_starts, .inl (cI, 86, .inl k_starts_v)), (k_slots, .inl (cI, 256, .inl k_slots_v)), (h1, .inl (cI, ll, .inl lt))] sz) [(h0, .inr (1, [.ref e_lexicon, .int e_yes, .int e_no, .int e_errorTag, .int e_fixed, .ref e_cells, .ref e_spare, .int (m_Heap_newWord_w0_7 e_top b), .int e_spareTop, .ref e_leftLists, .ref e_rightLists, .ref e_nextMembers])), (e_cells, .inl (cI, cl, .inl (m_Heap_newWord_w1 e_top e_cells_v cl k_letters_v k_starts_v k_slots_v lt a b))), (e_lexicon, .inr (2, [.ref k_letters, .ref k_starts, .ref k_arities, .ref k_kinds, .ref k_slots, .int k_words, .int k_used])), (k_letters, .inl (cI, 600, .inl k_letters_v)), (k_starts, .inl (cI, 86, .inl k_starts_v)), (k_slots, .inl (cI, 256, .inl k_slots_v)), (h1, .inl (cI, ll, .inl lt))]) (va_A [(h0, .inr (1, [.ref e_lexicon, .int e_yes, .int e_no, .int e_errorTag, .int e_fixed, .ref e_cells, .ref e_spare, .int e_top, .int e_spareTop, .ref e_leftLists, .ref e_rightLists, .ref e_nextMembers])), (e_cells, .inl (cI, cl, .inl e_cells_v)), (e_lexicon, .inr (2, [.ref k_letters, .ref k_starts, .ref k_arities, .ref k_kinds, .ref k_slots, .int k_words, .int k_used])), (k_letters, .inl (cI, 600, .inl k_letters_v)), (k_starts, .inl (cI, 86, .inl k_starts_v)), (k_slots, .inl (cI, 256, .inl k_slots_v)), (h1, .inl (cI, ll, .inl lt))] sz)) 0 0 (va_A [(h0, .inr (1, [.ref e_lexicon, .int e_yes, .int e_no, .int e_errorTag, .int e_fixed, .ref e_cells, .ref e_spare, .int e_top, .int e_spareTop, .ref e_leftLists, .ref e_rightLists, .ref e_nextMembers])), (e_cells, .inl (cI, cl, .inl e_cells_v)), (e_lexicon, .inr (2, [.ref k_letters, .ref k_starts, .ref k_arities, .ref k_kinds, .ref k_slots, .int k_words, .int k_used])), (k_letters, .inl (cI, 600, .inl k_letters_v)), (k_starts, .inl (cI, 86, .inl k_starts_v)), (k_slots, .inl (cI, 256, .inl k_slots_v)), (h1, .inl (cI, ll, .inl lt))] sz) := by
  refine Met.ofW (cc := b_Heap_newWord) (maxL := 5) (ret := (some .int)) (by decide) rfl ?_
  intro p e s m args below meth c s₁ B hml hv
  obtain ⟨rfl, hsz, hP, hK, hD0⟩ := hv
  have hx := B.exec
  have hb := B.bytes
  have hr := B.returns
  have hts := atoms_spec (ws := w_Heap_newWord) B.pre
  have htt : ∀ w ∈ tw_T, w.before _ s = true := fun w h => hts w (List.mem_cons_of_mem _ h)
  have hown : s.vm.findClass R_Heap = some m.cls := findClass_of_methodNamed B.named
  have hlocks := B.notSynchronized
  subst hsz
  have hD := hD0.self (sz := s.heap.size)
  generalize hAe : va_A [(h0, .inr (1, [.ref e_lexicon, .int e_yes, .int e_no, .int e_errorTag, .int e_fixed, .ref e_cells, .ref e_spare, .int e_top, .int e_spareTop, .ref e_leftLists, .ref e_rightLists, .ref e_nextMembers])), (e_cells, .inl (cI, cl, .inl e_cells_v)), (e_lexicon, .inr (2, [.ref k_letters, .ref k_starts, .ref k_arities, .ref k_kinds, .ref k_slots, .int k_words, .int k_used])), (k_letters, .inl (cI, 600, .inl k_letters_v)), (k_starts, .inl (cI, 86, .inl k_starts_v)), (k_slots, .inl (cI, 256, .inl k_slots_v)), (h1, .inl (cI, ll, .inl lt))] s.heap.size = A at hD ⊢
  have hA : ∀ q : Nat, s.heap.size ≤ q → A q := fun q h => by rw [← hAe]; exact Or.inr h
  have hS : va_S A s.heap s.heap [] := va_S.rf
  have hP : va_P (dC, dI) classes [(h0, .inr (1, [.ref e_lexicon, .int e_yes, .int e_no, .int e_errorTag, .int e_fixed, .ref e_cells, .ref e_spare, .int e_top, .int e_spareTop, .ref e_leftLists, .ref e_rightLists, .ref e_nextMembers])), (e_cells, .inl (cI, cl, .inl e_cells_v)), (e_lexicon, .inr (2, [.ref k_letters, .ref k_starts, .ref k_arities, .ref k_kinds, .ref k_slots, .int k_words, .int k_used])), (k_letters, .inl (cI, 600, .inl k_letters_v)), (k_starts, .inl (cI, 86, .inl k_starts_v)), (k_slots, .inl (cI, 256, .inl k_slots_v)), (h1, .inl (cI, ll, .inl lt))] s.heap := hP
  have hl := lv_entry ([.ref h0, .ref h1, .int a, .int b]) (n := 5) (Nat.le_of_ble_eq_true rfl)
  rw [lg_entry_eq]
  generalize (lg_sl ([.ref h0, .ref h1, .int a, .int b]) ++ List.replicate (5 - (lg_sl ([.ref h0, .ref h1, .int a, .int b])).length) Slot.unset).toArray = ls at hl ⊢
  have hl : lv_has ls 5 [(0, .ref h0), (1, .ref h1), (2, .int a), (3, .int b)] := hl
  refine lv_iload_n hx hb d_Heap_newWord_0 rfl (lv_at hl 2 rfl) ?_
  refine lv_if_lt (tgt := 27) hx hb d_Heap_newWord_1 (by decide) (fun c_1 => ?_) (fun c_1 => ?_)
  · exact absurd c_1 (by rw [Int32.lt_iff_toInt_lt]; simp only [Int32.reduceToInt]; have := hfw.2.1; omega)
  · refine lv_iload_n hx hb d_Heap_newWord_4 rfl (lv_at hl 3 rfl) ?_
    refine lv_iconst (v := 1) hx hb d_Heap_newWord_5 (by decide) ?_
    refine lv_icmp_lt (tgt := 27) hx hb d_Heap_newWord_6 (by decide) (fun c_2 => ?_) (fun c_2 => ?_)
    · exact absurd c_2 (by rw [Int32.lt_iff_toInt_lt]; simp only [Int32.reduceToInt]; have := hfw.2.2.1; omega)
    · refine lv_iload_n hx hb d_Heap_newWord_9 rfl (lv_at hl 3 rfl) ?_
      refine lv_aload_n hx hb d_Heap_newWord_10 rfl (lv_at hl 1 rfl) ?_
      refine va_alen (v := nI ll) hx hb hK hP 6 0 rfl rfl rfl d_Heap_newWord_11 ?_
      refine lv_iload_n hx hb d_Heap_newWord_12 rfl (lv_at hl 2 rfl) ?_
      refine lv_isub hx hb d_Heap_newWord_13 ?_
      refine lv_icmp_gt (tgt := 27) hx hb d_Heap_newWord_14 (by decide) (fun c_3 => ?_) (fun c_3 => ?_)
      · exact absurd c_3 (by rw [Int32.lt_iff_toInt_lt, (nw_w1 hfw).2.2]; have := hfw.2.2.2.1; omega)
      · refine lv_aload_n hx hb d_Heap_newWord_17 rfl (lv_at hl 0 rfl) ?_
        refine lv_iload_n hx hb d_Heap_newWord_18 rfl (lv_at hl 3 rfl) ?_
        refine lv_iconst (v := 2) hx hb d_Heap_newWord_19 (by decide) ?_
        refine lv_iadd hx hb d_Heap_newWord_20 ?_
        have hPc := hP.sub (ws' := [(h0, .inr (1, [.ref e_lexicon, .int e_yes, .int e_no, .int e_errorTag, .int e_fixed, .ref e_cells, .ref e_spare, .int e_top, .int e_spareTop, .ref e_leftLists, .ref e_rightLists, .ref e_nextMembers])), (e_cells, .inl (cI, cl, .inl e_cells_v))]) [0, 1] rfl
        have hDc := hD.sub (ws' := [(h0, .inr (1, [.ref e_lexicon, .int e_yes, .int e_no, .int e_errorTag, .int e_fixed, .ref e_cells, .ref e_spare, .int e_top, .int e_spareTop, .ref e_leftLists, .ref e_rightLists, .ref e_nextMembers])), (e_cells, .inl (cI, cl, .inl e_cells_v))]) [0, 1] (by decide) rfl
        have hKc := hK.sub (tys' := [(cI, .int)]) [0] rfl
        have hFc := va_free (wc := [(h0, .inr (1, [.ref e_lexicon, .int e_yes, .int e_no, .int e_errorTag, .int e_fixed, .ref e_cells, .ref e_spare, .int e_top, .int e_spareTop, .ref e_leftLists, .ref e_rightLists, .ref e_nextMembers])), (e_cells, .inl (cI, cl, .inl e_cells_v))]) hD hS hA [0, 1] rfl
        refine va_calli (va_runV (As := [.int (b + 2)]) (rest := []) ⟨hx, hb, hml, hown, hts⟩ (c_Heap_reserve_fit l dC dI s.heap.size h0 e_lexicon e_yes e_no e_errorTag e_fixed e_cells e_spare e_top e_spareTop e_leftLists e_rightLists e_nextMembers e_cells_v cI cl (b + 2) (nw_b2 (by have := hfw.2.2.1; omega) hfw.2.2.2.2.2.1 hfw.1 hfw.2.2.2.2.2.2).1) (cwV 1 hts (tw_GV tw_cons cw_Heap_reserve lk_Heap_102 in_Heap_reserve sel_Heap_reserve ini_Heap) rfl rfl rfl (by decide +kernel) ⟨Nat.le_of_ble_eq_true rfl, Nat.le_of_ble_eq_true rfl⟩) ⟨fun a U g mk q => by obtain ⟨q0, q1, qP, qK, qD⟩ := q; exact ⟨q0, q1, qP, va_K.moved (u := U) (U := U.calling g mk a) (Vm.Alike.refl U.vm) qK, qD⟩, va_recv hKc hPc (ci := 1) (q0 := 0) rfl rfl, fun U hU hW => ⟨rfl, by rw [hU], by rw [hU]; exact hPc, va_K.moved hW.alike hKc, hDc.weaken (fun _ _ _ _ => trivial)⟩⟩ rfl rfl hl.1 rfl (lv_room (Nat.le_of_ble_eq_true rfl)) d_Heap_newWord_21 ⟨Nat.le_of_ble_eq_true rfl, Nat.le_of_ble_eq_true rfl⟩) hS (fun q _ h => hFc q h) hFc (fun r9 u9 t9 H1 locs ht hvm e9 hB hz1 hk1 hS => ?_)
        obtain ⟨hP1, hK1, hD1⟩ := hB
        rw [ht] at hP1
        obtain ⟨hP, hD⟩ := va_join (wr := [(e_lexicon, .inr (2, [.ref k_letters, .ref k_starts, .ref k_arities, .ref k_kinds, .ref k_slots, .int k_words, .int k_used])), (k_letters, .inl (cI, 600, .inl k_letters_v)), (k_starts, .inl (cI, 86, .inl k_starts_v)), (k_slots, .inl (cI, 256, .inl k_slots_v)), (h1, .inl (cI, ll, .inl lt))]) (w1 := [(h0, .inr (1, [.ref e_lexicon, .int e_yes, .int e_no, .int e_errorTag, .int e_fixed, .ref e_cells, .ref e_spare, .int e_top, .int e_spareTop, .ref e_leftLists, .ref e_rightLists, .ref e_nextMembers])), (e_cells, .inl (cI, cl, .inl e_cells_v))]) hP hD [0, 1] [2, 3, 4, 5, 6] rfl rfl (by decide) (by decide) hk1 hFc hP1 hD1
        subst e9
        clear hP1 hD1 hK1 hvm hz1 hk1 hFc hKc hDc hPc
        subst ht
        generalize t9.heap = H at hP hS ⊢
        have hP : va_P (dC, dI) classes [(e_lexicon, .inr (2, [.ref k_letters, .ref k_starts, .ref k_arities, .ref k_kinds, .ref k_slots, .int k_words, .int k_used])), (k_letters, .inl (cI, 600, .inl k_letters_v)), (k_starts, .inl (cI, 86, .inl k_starts_v)), (k_slots, .inl (cI, 256, .inl k_slots_v)), (h1, .inl (cI, ll, .inl lt)), (h0, .inr (1, [.ref e_lexicon, .int e_yes, .int e_no, .int e_errorTag, .int e_fixed, .ref e_cells, .ref e_spare, .int e_top, .int e_spareTop, .ref e_leftLists, .ref e_rightLists, .ref e_nextMembers])), (e_cells, .inl (cI, cl, .inl e_cells_v))] H := hP
        have hD : va_D A [(e_lexicon, .inr (2, [.ref k_letters, .ref k_starts, .ref k_arities, .ref k_kinds, .ref k_slots, .int k_words, .int k_used])), (k_letters, .inl (cI, 600, .inl k_letters_v)), (k_starts, .inl (cI, 86, .inl k_starts_v)), (k_slots, .inl (cI, 256, .inl k_slots_v)), (h1, .inl (cI, ll, .inl lt)), (h0, .inr (1, [.ref e_lexicon, .int e_yes, .int e_no, .int e_errorTag, .int e_fixed, .ref e_cells, .ref e_spare, .int e_top, .int e_spareTop, .ref e_leftLists, .ref e_rightLists, .ref e_nextMembers])), (e_cells, .inl (cI, cl, .inl e_cells_v))] := hD
        refine lv_if_ne (tgt := 30) hx hb d_Heap_newWord_24 (by decide) (fun c_4 => ?_) (fun c_4 => ?_)
        · refine lv_aload_n hx hb d_Heap_newWord_30 rfl (lv_at hl 0 rfl) ?_
          refine va_get (D := (dC, dI)) (ci := 1) (v := .int e_top) (C := R_Heap) (T := F_Heap) (N := 12) hx hb htt iw_Heap hown hK hP 5 rfl rfl 7 (by decide) (htt _ lk_Heap_18) (fun _ h9 => h9) rfl d_Heap_newWord_31 ?_
          refine lv_iconst (v := 1) hx hb d_Heap_newWord_34 (by decide) ?_
          refine lv_iadd hx hb d_Heap_newWord_35 ?_
          refine lv_topi (fun x_5 ex_5 => ?_)
          refine lv_istore (lv' := [(4, .int x_5), (0, .ref h0), (1, .ref h1), (2, .int a), (3, .int b)]) hx hb d_Heap_newWord_36 hl (by decide) rfl (fun ls hl => ?_)
          refine lv_aload_n hx hb d_Heap_newWord_38 rfl (lv_at hl 2 rfl) ?_
          refine lv_iload_n hx hb d_Heap_newWord_39 rfl (lv_at hl 3 rfl) ?_
          refine lv_aload_n hx hb d_Heap_newWord_40 rfl (lv_at hl 1 rfl) ?_
          refine va_get (D := (dC, dI)) (ci := 1) (v := .ref e_cells) (C := R_Heap) (T := F_Heap) (N := 12) hx hb htt iw_Heap hown hK hP 5 rfl rfl 5 (by decide) (htt _ lk_Heap_11) (fun _ h9 => h9) rfl d_Heap_newWord_41 ?_
          refine lv_iload hx hb d_Heap_newWord_44 (lv_at hl 0 rfl) ?_
          refine lv_iload_n hx hb d_Heap_newWord_46 rfl (lv_at hl 4 rfl) ?_
          refine va_copyi hx hb (by rw [hml]; exact hl.1.symm) hown (htt _ lk_Heap_106) (htt _ na_arraycopy) (htt _ st_arraycopy) (htt _ ini_System) hK hP hD hS 4 6 0 0 (ty := .int) (sp := a) (dp := x_5) (n := b) rfl rfl rfl rfl rfl (by rw [Int32.lt_iff_toInt_lt]; simp only [Int32.reduceToInt]; have := hfw.2.1; omega) (by rw [ex_5, Int32.lt_iff_toInt_lt, (nw_w1 hfw).1]; simp only [Int32.reduceToInt]; have := hfw.1; omega) (by rw [Int32.lt_iff_toInt_lt]; simp only [Int32.reduceToInt]; have := hfw.2.2.1; omega) (by have h1 := nw_nat hfw.2.1; have h2 := nw_nat (show 0 ≤ b.toInt by have := hfw.2.2.1; omega); have := hfw.2.2.2.1; omega) (by rw [ex_5]; have h1 := nw_nat (show 0 ≤ (e_top + 1).toInt by rw [(nw_w1 hfw).1]; have := hfw.1; omega); have h2 := nw_nat (show 0 ≤ b.toInt by have := hfw.2.2.1; omega); rw [(nw_w1 hfw).1] at h1; have := hfw.2.2.2.2.2.1; omega) (fun _ _ => rfl) (Nat.le_of_ble_eq_true rfl) (Nat.le_of_ble_eq_true rfl) d_Heap_newWord_47 (fun H locs hP hD hS => ?_)
          have hP : va_P (dC, dI) classes [(e_lexicon, .inr (2, [.ref k_letters, .ref k_starts, .ref k_arities, .ref k_kinds, .ref k_slots, .int k_words, .int k_used])), (k_letters, .inl (cI, 600, .inl k_letters_v)), (k_starts, .inl (cI, 86, .inl k_starts_v)), (k_slots, .inl (cI, 256, .inl k_slots_v)), (h1, .inl (cI, ll, .inl lt)), (h0, .inr (1, [.ref e_lexicon, .int e_yes, .int e_no, .int e_errorTag, .int e_fixed, .ref e_cells, .ref e_spare, .int e_top, .int e_spareTop, .ref e_leftLists, .ref e_rightLists, .ref e_nextMembers])), (e_cells, .inl (cI, cl, .inl (va_cpy lt e_cells_v a.toNatClampNeg x_5.toNatClampNeg b.toNatClampNeg)))] H := hP
          have hD : va_D A [(e_lexicon, .inr (2, [.ref k_letters, .ref k_starts, .ref k_arities, .ref k_kinds, .ref k_slots, .int k_words, .int k_used])), (k_letters, .inl (cI, 600, .inl k_letters_v)), (k_starts, .inl (cI, 86, .inl k_starts_v)), (k_slots, .inl (cI, 256, .inl k_slots_v)), (h1, .inl (cI, ll, .inl lt)), (h0, .inr (1, [.ref e_lexicon, .int e_yes, .int e_no, .int e_errorTag, .int e_fixed, .ref e_cells, .ref e_spare, .int e_top, .int e_spareTop, .ref e_leftLists, .ref e_rightLists, .ref e_nextMembers])), (e_cells, .inl (cI, cl, .inl (va_cpy lt e_cells_v a.toNatClampNeg x_5.toNatClampNeg b.toNatClampNeg)))] := hD
          refine lv_aload_n hx hb d_Heap_newWord_50 rfl (lv_at hl 1 rfl) ?_
          refine va_get (D := (dC, dI)) (ci := 1) (v := .ref e_cells) (C := R_Heap) (T := F_Heap) (N := 12) hx hb htt iw_Heap hown hK hP 5 rfl rfl 5 (by decide) (htt _ lk_Heap_11) (fun _ h9 => h9) rfl d_Heap_newWord_51 ?_
          refine lv_iload hx hb d_Heap_newWord_54 (lv_at hl 0 rfl) ?_
          refine lv_iload_n hx hb d_Heap_newWord_56 rfl (lv_at hl 4 rfl) ?_
          refine lv_iadd hx hb d_Heap_newWord_57 ?_
          refine lv_iconst (v := 0) hx hb d_Heap_newWord_58 (by decide) ?_
          have h_6 : vp_in (x_5 + b) cl := by rw [ex_5, vp_in_iff, (nw_w1 hfw).2.1]; have := hfw.1; have := hfw.2.2.1; have := hfw.2.2.2.2.2.1; omega
          refine va_iast hx hb hK hP hD hS 6 0 rfl rfl h_6 d_Heap_newWord_59 (fun H locs hP hD hS => ?_)
          have hP : va_P (dC, dI) classes [(e_lexicon, .inr (2, [.ref k_letters, .ref k_starts, .ref k_arities, .ref k_kinds, .ref k_slots, .int k_words, .int k_used])), (k_letters, .inl (cI, 600, .inl k_letters_v)), (k_starts, .inl (cI, 86, .inl k_starts_v)), (k_slots, .inl (cI, 256, .inl k_slots_v)), (h1, .inl (cI, ll, .inl lt)), (h0, .inr (1, [.ref e_lexicon, .int e_yes, .int e_no, .int e_errorTag, .int e_fixed, .ref e_cells, .ref e_spare, .int e_top, .int e_spareTop, .ref e_leftLists, .ref e_rightLists, .ref e_nextMembers])), (e_cells, .inl (cI, cl, .inl (upd (va_cpy lt e_cells_v a.toNatClampNeg x_5.toNatClampNeg b.toNatClampNeg) (x_5 + b).toNatClampNeg 0)))] H := hP
          have hD : va_D A [(e_lexicon, .inr (2, [.ref k_letters, .ref k_starts, .ref k_arities, .ref k_kinds, .ref k_slots, .int k_words, .int k_used])), (k_letters, .inl (cI, 600, .inl k_letters_v)), (k_starts, .inl (cI, 86, .inl k_starts_v)), (k_slots, .inl (cI, 256, .inl k_slots_v)), (h1, .inl (cI, ll, .inl lt)), (h0, .inr (1, [.ref e_lexicon, .int e_yes, .int e_no, .int e_errorTag, .int e_fixed, .ref e_cells, .ref e_spare, .int e_top, .int e_spareTop, .ref e_leftLists, .ref e_rightLists, .ref e_nextMembers])), (e_cells, .inl (cI, cl, .inl (upd (va_cpy lt e_cells_v a.toNatClampNeg x_5.toNatClampNeg b.toNatClampNeg) (x_5 + b).toNatClampNeg 0)))] := hD
          refine lv_aload_n hx hb d_Heap_newWord_60 rfl (lv_at hl 1 rfl) ?_
          refine va_get (D := (dC, dI)) (ci := 1) (v := .ref e_cells) (C := R_Heap) (T := F_Heap) (N := 12) hx hb htt iw_Heap hown hK hP 5 rfl rfl 5 (by decide) (htt _ lk_Heap_11) (fun _ h9 => h9) rfl d_Heap_newWord_61 ?_
          refine lv_aload_n hx hb d_Heap_newWord_64 rfl (lv_at hl 1 rfl) ?_
          refine va_get (D := (dC, dI)) (ci := 1) (v := .int e_top) (C := R_Heap) (T := F_Heap) (N := 12) hx hb htt iw_Heap hown hK hP 5 rfl rfl 7 (by decide) (htt _ lk_Heap_18) (fun _ h9 => h9) rfl d_Heap_newWord_65 ?_
          refine lv_sipush (v := 128) hx hb d_Heap_newWord_68 (by decide) ?_
          refine lv_aload_n hx hb d_Heap_newWord_71 rfl (lv_at hl 1 rfl) ?_
          refine va_get (D := (dC, dI)) (ci := 1) (v := .ref e_lexicon) (C := R_Heap) (T := F_Heap) (N := 12) hx hb htt iw_Heap hown hK hP 5 rfl rfl 0 (by decide) (htt _ lk_Heap_31) (fun _ h9 => h9) rfl d_Heap_newWord_72 ?_
          refine lv_aload_n hx hb d_Heap_newWord_75 rfl (lv_at hl 1 rfl) ?_
          refine va_get (D := (dC, dI)) (ci := 1) (v := .ref e_cells) (C := R_Heap) (T := F_Heap) (N := 12) hx hb htt iw_Heap hown hK hP 5 rfl rfl 5 (by decide) (htt _ lk_Heap_11) (fun _ h9 => h9) rfl d_Heap_newWord_76 ?_
          refine lv_iload hx hb d_Heap_newWord_79 (lv_at hl 0 rfl) ?_
          have hPc := hP.sub (ws' := [(e_lexicon, .inr (2, [.ref k_letters, .ref k_starts, .ref k_arities, .ref k_kinds, .ref k_slots, .int k_words, .int k_used])), (k_letters, .inl (cI, 600, .inl k_letters_v)), (k_starts, .inl (cI, 86, .inl k_starts_v)), (k_slots, .inl (cI, 256, .inl k_slots_v)), (e_cells, .inl (cI, cl, .inl ((upd (va_cpy lt e_cells_v a.toNatClampNeg x_5.toNatClampNeg b.toNatClampNeg) (x_5 + b).toNatClampNeg 0))))]) [0, 1, 2, 3, 6] rfl
          have hDc := hD.sub (ws' := [(e_lexicon, .inr (2, [.ref k_letters, .ref k_starts, .ref k_arities, .ref k_kinds, .ref k_slots, .int k_words, .int k_used])), (k_letters, .inl (cI, 600, .inl k_letters_v)), (k_starts, .inl (cI, 86, .inl k_starts_v)), (k_slots, .inl (cI, 256, .inl k_slots_v)), (e_cells, .inl (cI, cl, .inl ((upd (va_cpy lt e_cells_v a.toNatClampNeg x_5.toNatClampNeg b.toNatClampNeg) (x_5 + b).toNatClampNeg 0))))]) [0, 1, 2, 3, 6] (by decide) rfl
          have hKc := hK.sub (tys' := [(cI, .int)]) [0] rfl
          have hFc := va_free (wc := [(e_lexicon, .inr (2, [.ref k_letters, .ref k_starts, .ref k_arities, .ref k_kinds, .ref k_slots, .int k_words, .int k_used])), (k_letters, .inl (cI, 600, .inl k_letters_v)), (k_starts, .inl (cI, 86, .inl k_starts_v)), (k_slots, .inl (cI, 256, .inl k_slots_v)), (e_cells, .inl (cI, cl, .inl ((upd (va_cpy lt e_cells_v a.toNatClampNeg x_5.toNatClampNeg b.toNatClampNeg) (x_5 + b).toNatClampNeg 0))))]) hD hS hA [0, 1, 2, 3, 6] rfl
          refine va_calli (va_runV (As := [.ref e_cells, .int x_5]) (rest := [.int 128, .int e_top, .ref e_cells]) ⟨hx, hb, hml, hown, hts⟩ (c_Lexicon_meaning l dC dI H.size e_lexicon k_letters k_starts k_arities k_kinds k_slots k_words k_used k_letters_v k_starts_v k_slots_v cI e_cells cl (upd (va_cpy lt e_cells_v a.toNatClampNeg x_5.toNatClampNeg b.toNatClampNeg) (x_5 + b).toNatClampNeg 0) x_5 (hfw.2.2.2.2.2.2) (hst) (hsl)) (cwV 2 hts (tw_GV tw_cons cw_Lexicon_meaning lk_Heap_112 in_Lexicon_meaning sel_Lexicon_meaning ini_Lexicon) rfl rfl rfl (by decide +kernel) ⟨Nat.le_of_ble_eq_true rfl, Nat.le_of_ble_eq_true rfl⟩) ⟨fun a U g mk q => by obtain ⟨q0, q1, qP, qK, qD⟩ := q; exact ⟨q0, q1, qP, va_K.moved (u := U) (U := U.calling g mk a) (Vm.Alike.refl U.vm) qK, qD⟩, va_recv hKc hPc (ci := 2) (q0 := 0) rfl rfl, fun U hU hW => ⟨rfl, by rw [hU], by rw [hU]; exact hPc, va_K.moved hW.alike hKc, hDc.weaken (fun _ _ _ _ => trivial)⟩⟩ rfl rfl hl.1 rfl (lv_room (Nat.le_of_ble_eq_true rfl)) d_Heap_newWord_81 ⟨Nat.le_of_ble_eq_true rfl, Nat.le_of_ble_eq_true rfl⟩) hS (fun q _ h => hFc q h) hFc (fun r9 u9 t9 H1 locs ht hvm e9 hB hz1 hk1 hS => ?_)
          obtain ⟨hP1, hK1, hD1⟩ := hB
          rw [ht] at hP1
          obtain ⟨hP, hD⟩ := va_join (wr := [(h1, .inl (cI, ll, .inl lt)), (h0, .inr (1, [.ref e_lexicon, .int e_yes, .int e_no, .int e_errorTag, .int e_fixed, .ref e_cells, .ref e_spare, .int e_top, .int e_spareTop, .ref e_leftLists, .ref e_rightLists, .ref e_nextMembers]))]) (w1 := [(e_lexicon, .inr (2, [.ref k_letters, .ref k_starts, .ref k_arities, .ref k_kinds, .ref k_slots, .int k_words, .int k_used])), (k_letters, .inl (cI, 600, .inl k_letters_v)), (k_starts, .inl (cI, 86, .inl k_starts_v)), (k_slots, .inl (cI, 256, .inl k_slots_v)), (e_cells, .inl (cI, cl, .inl ((upd (va_cpy lt e_cells_v a.toNatClampNeg x_5.toNatClampNeg b.toNatClampNeg) (x_5 + b).toNatClampNeg 0))))]) hP hD [0, 1, 2, 3, 6] [4, 5] rfl rfl (by decide) (by decide) hk1 hFc hP1 hD1
          subst e9
          clear hP1 hD1 hK1 hvm hz1 hk1 hFc hKc hDc hPc
          subst ht
          generalize t9.heap = H at hP hS ⊢
          have hP : va_P (dC, dI) classes [(h1, .inl (cI, ll, .inl lt)), (h0, .inr (1, [.ref e_lexicon, .int e_yes, .int e_no, .int e_errorTag, .int e_fixed, .ref e_cells, .ref e_spare, .int e_top, .int e_spareTop, .ref e_leftLists, .ref e_rightLists, .ref e_nextMembers])), (e_lexicon, .inr (2, [.ref k_letters, .ref k_starts, .ref k_arities, .ref k_kinds, .ref k_slots, .int k_words, .int k_used])), (k_letters, .inl (cI, 600, .inl k_letters_v)), (k_starts, .inl (cI, 86, .inl k_starts_v)), (k_slots, .inl (cI, 256, .inl k_slots_v)), (e_cells, .inl (cI, cl, .inl ((upd (va_cpy lt e_cells_v a.toNatClampNeg x_5.toNatClampNeg b.toNatClampNeg) (x_5 + b).toNatClampNeg 0))))] H := hP
          have hD : va_D A [(h1, .inl (cI, ll, .inl lt)), (h0, .inr (1, [.ref e_lexicon, .int e_yes, .int e_no, .int e_errorTag, .int e_fixed, .ref e_cells, .ref e_spare, .int e_top, .int e_spareTop, .ref e_leftLists, .ref e_rightLists, .ref e_nextMembers])), (e_lexicon, .inr (2, [.ref k_letters, .ref k_starts, .ref k_arities, .ref k_kinds, .ref k_slots, .int k_words, .int k_used])), (k_letters, .inl (cI, 600, .inl k_letters_v)), (k_starts, .inl (cI, 86, .inl k_starts_v)), (k_slots, .inl (cI, 256, .inl k_slots_v)), (e_cells, .inl (cI, cl, .inl ((upd (va_cpy lt e_cells_v a.toNatClampNeg x_5.toNatClampNeg b.toNatClampNeg) (x_5 + b).toNatClampNeg 0))))] := hD
          refine lv_iadd hx hb d_Heap_newWord_84 ?_
          have h_7 : vp_in e_top cl := by rw [vp_in_iff]; have := hfw.1; have := hfw.2.2.1; have := hfw.2.2.2.2.2.1; omega
          refine va_iast hx hb hK hP hD hS 6 0 rfl rfl h_7 d_Heap_newWord_85 (fun H locs hP hD hS => ?_)
          have hP : va_P (dC, dI) classes [(h1, .inl (cI, ll, .inl lt)), (h0, .inr (1, [.ref e_lexicon, .int e_yes, .int e_no, .int e_errorTag, .int e_fixed, .ref e_cells, .ref e_spare, .int e_top, .int e_spareTop, .ref e_leftLists, .ref e_rightLists, .ref e_nextMembers])), (e_lexicon, .inr (2, [.ref k_letters, .ref k_starts, .ref k_arities, .ref k_kinds, .ref k_slots, .int k_words, .int k_used])), (k_letters, .inl (cI, 600, .inl k_letters_v)), (k_starts, .inl (cI, 86, .inl k_starts_v)), (k_slots, .inl (cI, 256, .inl k_slots_v)), (e_cells, .inl (cI, cl, .inl (upd ((upd (va_cpy lt e_cells_v a.toNatClampNeg x_5.toNatClampNeg b.toNatClampNeg) (x_5 + b).toNatClampNeg 0)) e_top.toNatClampNeg (128 + (m_Lexicon_meaning_r k_letters_v k_starts_v k_slots_v cl (upd (va_cpy lt e_cells_v a.toNatClampNeg x_5.toNatClampNeg b.toNatClampNeg) (x_5 + b).toNatClampNeg 0) x_5)))))] H := hP
          have hD : va_D A [(h1, .inl (cI, ll, .inl lt)), (h0, .inr (1, [.ref e_lexicon, .int e_yes, .int e_no, .int e_errorTag, .int e_fixed, .ref e_cells, .ref e_spare, .int e_top, .int e_spareTop, .ref e_leftLists, .ref e_rightLists, .ref e_nextMembers])), (e_lexicon, .inr (2, [.ref k_letters, .ref k_starts, .ref k_arities, .ref k_kinds, .ref k_slots, .int k_words, .int k_used])), (k_letters, .inl (cI, 600, .inl k_letters_v)), (k_starts, .inl (cI, 86, .inl k_starts_v)), (k_slots, .inl (cI, 256, .inl k_slots_v)), (e_cells, .inl (cI, cl, .inl (upd ((upd (va_cpy lt e_cells_v a.toNatClampNeg x_5.toNatClampNeg b.toNatClampNeg) (x_5 + b).toNatClampNeg 0)) e_top.toNatClampNeg (128 + (m_Lexicon_meaning_r k_letters_v k_starts_v k_slots_v cl (upd (va_cpy lt e_cells_v a.toNatClampNeg x_5.toNatClampNeg b.toNatClampNeg) (x_5 + b).toNatClampNeg 0) x_5)))))] := hD
          refine lv_aload_n hx hb d_Heap_newWord_86 rfl (lv_at hl 1 rfl) ?_
          refine lv_iload hx hb d_Heap_newWord_87 (lv_at hl 0 rfl) ?_
          refine lv_iload_n hx hb d_Heap_newWord_89 rfl (lv_at hl 4 rfl) ?_
          refine lv_iadd hx hb d_Heap_newWord_90 ?_
          refine lv_iconst (v := 1) hx hb d_Heap_newWord_91 (by decide) ?_
          refine lv_iadd hx hb d_Heap_newWord_92 ?_
          refine lv_topi (fun x_8 ex_8 => ?_)
          refine va_put (D := (dC, dI)) (ci := 1) (v := .int x_8) (ty := .int) (C := R_Heap) (T := F_Heap) (N := 12) hx hb htt iw_Heap t_Heap t_Heap_ok n_Heap hown hK hP hD hS 1 rfl rfl 7 (by decide) (htt _ lk_Heap_18) (fun _ h9 => h9) rfl (by decide +kernel) rfl rfl (Nat.le_of_ble_eq_true rfl) d_Heap_newWord_93 (fun H locs hP hD hS => ?_)
          have hP : va_P (dC, dI) classes [(h1, .inl (cI, ll, .inl lt)), (h0, .inr (1, [.ref e_lexicon, .int e_yes, .int e_no, .int e_errorTag, .int e_fixed, .ref e_cells, .ref e_spare, .int x_8, .int e_spareTop, .ref e_leftLists, .ref e_rightLists, .ref e_nextMembers])), (e_lexicon, .inr (2, [.ref k_letters, .ref k_starts, .ref k_arities, .ref k_kinds, .ref k_slots, .int k_words, .int k_used])), (k_letters, .inl (cI, 600, .inl k_letters_v)), (k_starts, .inl (cI, 86, .inl k_starts_v)), (k_slots, .inl (cI, 256, .inl k_slots_v)), (e_cells, .inl (cI, cl, .inl (upd ((upd (va_cpy lt e_cells_v a.toNatClampNeg x_5.toNatClampNeg b.toNatClampNeg) (x_5 + b).toNatClampNeg 0)) e_top.toNatClampNeg (128 + (m_Lexicon_meaning_r k_letters_v k_starts_v k_slots_v cl (upd (va_cpy lt e_cells_v a.toNatClampNeg x_5.toNatClampNeg b.toNatClampNeg) (x_5 + b).toNatClampNeg 0) x_5)))))] H := hP
          have hD : va_D A [(h1, .inl (cI, ll, .inl lt)), (h0, .inr (1, [.ref e_lexicon, .int e_yes, .int e_no, .int e_errorTag, .int e_fixed, .ref e_cells, .ref e_spare, .int x_8, .int e_spareTop, .ref e_leftLists, .ref e_rightLists, .ref e_nextMembers])), (e_lexicon, .inr (2, [.ref k_letters, .ref k_starts, .ref k_arities, .ref k_kinds, .ref k_slots, .int k_words, .int k_used])), (k_letters, .inl (cI, 600, .inl k_letters_v)), (k_starts, .inl (cI, 86, .inl k_starts_v)), (k_slots, .inl (cI, 256, .inl k_slots_v)), (e_cells, .inl (cI, cl, .inl (upd ((upd (va_cpy lt e_cells_v a.toNatClampNeg x_5.toNatClampNeg b.toNatClampNeg) (x_5 + b).toNatClampNeg 0)) e_top.toNatClampNeg (128 + (m_Lexicon_meaning_r k_letters_v k_starts_v k_slots_v cl (upd (va_cpy lt e_cells_v a.toNatClampNeg x_5.toNatClampNeg b.toNatClampNeg) (x_5 + b).toNatClampNeg 0) x_5)))))] := hD
          refine lv_iload hx hb d_Heap_newWord_96 (lv_at hl 0 rfl) ?_
          refine lv_iconst (v := 2) hx hb d_Heap_newWord_98 (by decide) ?_
          refine lv_ishl hx hb d_Heap_newWord_99 ?_
          refine lv_iconst (v := 3) hx hb d_Heap_newWord_100 (by decide) ?_
          refine lv_ior hx hb d_Heap_newWord_101 ?_
          subst ex_5 ex_8
          have hP9 := hP.sub (ws' := [(h0, .inr (1, [.ref e_lexicon, .int e_yes, .int e_no, .int e_errorTag, .int e_fixed, .ref e_cells, .ref e_spare, .int ((((e_top + 1) + b) + 1)), .int e_spareTop, .ref e_leftLists, .ref e_rightLists, .ref e_nextMembers])), (e_cells, .inl (cI, cl, .inl (upd ((upd (va_cpy lt e_cells_v a.toNatClampNeg (e_top + 1).toNatClampNeg b.toNatClampNeg) ((e_top + 1) + b).toNatClampNeg 0)) e_top.toNatClampNeg (128 + (m_Lexicon_meaning_r k_letters_v k_starts_v k_slots_v cl (upd (va_cpy lt e_cells_v a.toNatClampNeg (e_top + 1).toNatClampNeg b.toNatClampNeg) ((e_top + 1) + b).toNatClampNeg 0) (e_top + 1)))))), (e_lexicon, .inr (2, [.ref k_letters, .ref k_starts, .ref k_arities, .ref k_kinds, .ref k_slots, .int k_words, .int k_used])), (k_letters, .inl (cI, 600, .inl k_letters_v)), (k_starts, .inl (cI, 86, .inl k_starts_v)), (k_slots, .inl (cI, 256, .inl k_slots_v)), (h1, .inl (cI, ll, .inl lt))]) [1, 6, 2, 3, 4, 5, 0] rfl
          have hD9 := hD.sub (ws' := [(h0, .inr (1, [.ref e_lexicon, .int e_yes, .int e_no, .int e_errorTag, .int e_fixed, .ref e_cells, .ref e_spare, .int ((((e_top + 1) + b) + 1)), .int e_spareTop, .ref e_leftLists, .ref e_rightLists, .ref e_nextMembers])), (e_cells, .inl (cI, cl, .inl (upd ((upd (va_cpy lt e_cells_v a.toNatClampNeg (e_top + 1).toNatClampNeg b.toNatClampNeg) ((e_top + 1) + b).toNatClampNeg 0)) e_top.toNatClampNeg (128 + (m_Lexicon_meaning_r k_letters_v k_starts_v k_slots_v cl (upd (va_cpy lt e_cells_v a.toNatClampNeg (e_top + 1).toNatClampNeg b.toNatClampNeg) ((e_top + 1) + b).toNatClampNeg 0) (e_top + 1)))))), (e_lexicon, .inr (2, [.ref k_letters, .ref k_starts, .ref k_arities, .ref k_kinds, .ref k_slots, .int k_words, .int k_used])), (k_letters, .inl (cI, 600, .inl k_letters_v)), (k_starts, .inl (cI, 86, .inl k_starts_v)), (k_slots, .inl (cI, 256, .inl k_slots_v)), (h1, .inl (cI, ll, .inl lt))]) [1, 6, 2, 3, 4, 5, 0] (by decide) rfl
          have eW : [(h0, .inr (1, [.ref e_lexicon, .int e_yes, .int e_no, .int e_errorTag, .int e_fixed, .ref e_cells, .ref e_spare, .int ((((e_top + 1) + b) + 1)), .int e_spareTop, .ref e_leftLists, .ref e_rightLists, .ref e_nextMembers])), (e_cells, .inl (cI, cl, .inl (upd ((upd (va_cpy lt e_cells_v a.toNatClampNeg (e_top + 1).toNatClampNeg b.toNatClampNeg) ((e_top + 1) + b).toNatClampNeg 0)) e_top.toNatClampNeg (128 + (m_Lexicon_meaning_r k_letters_v k_starts_v k_slots_v cl (upd (va_cpy lt e_cells_v a.toNatClampNeg (e_top + 1).toNatClampNeg b.toNatClampNeg) ((e_top + 1) + b).toNatClampNeg 0) (e_top + 1)))))), (e_lexicon, .inr (2, [.ref k_letters, .ref k_starts, .ref k_arities, .ref k_kinds, .ref k_slots, .int k_words, .int k_used])), (k_letters, .inl (cI, 600, .inl k_letters_v)), (k_starts, .inl (cI, 86, .inl k_starts_v)), (k_slots, .inl (cI, 256, .inl k_slots_v)), (h1, .inl (cI, ll, .inl lt))] = ([(h0, .inr (1, [.ref e_lexicon, .int e_yes, .int e_no, .int e_errorTag, .int e_fixed, .ref e_cells, .ref e_spare, .int (m_Heap_newWord_w0_7 e_top b), .int e_spareTop, .ref e_leftLists, .ref e_rightLists, .ref e_nextMembers])), (e_cells, .inl (cI, cl, .inl (m_Heap_newWord_w1 e_top e_cells_v cl k_letters_v k_starts_v k_slots_v lt a b))), (e_lexicon, .inr (2, [.ref k_letters, .ref k_starts, .ref k_arities, .ref k_kinds, .ref k_slots, .int k_words, .int k_used])), (k_letters, .inl (cI, 600, .inl k_letters_v)), (k_starts, .inl (cI, 86, .inl k_starts_v)), (k_slots, .inl (cI, 256, .inl k_slots_v)), (h1, .inl (cI, ll, .inl lt))] : va_W) := by unfold m_Heap_newWord_w0_7 m_Heap_newWord_w1; rfl
          rw [eW] at hP9 hD9
          exact W.iret (v := ((e_top + 1) <<< ((2 : Int32) &&& 31)) ||| 3) hx hb hr (fun t9 ht hW => ⟨⟨((e_top + 1) <<< ((2 : Int32) &&& 31)) ||| 3, (), rfl, by unfold m_Heap_newWord_r; rfl, by rw [ht]; exact hP9, va_K.moved hW.alike hK, hD9⟩, hS.F ht⟩) hS.2.2 d_Heap_newWord_102
        · exact absurd c_4 (by decide)
