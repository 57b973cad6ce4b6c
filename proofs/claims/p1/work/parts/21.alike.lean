theorem d_Heap_alike_0 : decode b_Heap_alike 0 = .ok (.iload_n 1, 1) := by decide +kernel
theorem d_Heap_alike_1 : decode b_Heap_alike 1 = .ok (.iload_n 2, 1) := by decide +kernel
theorem d_Heap_alike_2 : decode b_Heap_alike 2 = .ok (.if_icmp .ne 5, 3) := by decide +kernel
theorem d_Heap_alike_5 : decode b_Heap_alike 5 = .ok (.iconst 1, 1) := by decide +kernel
theorem d_Heap_alike_6 : decode b_Heap_alike 6 = .ok (.ireturn, 1) := by decide +kernel
theorem d_Heap_alike_7 : decode b_Heap_alike 7 = .ok (.iload_n 1, 1) := by decide +kernel
theorem d_Heap_alike_8 : decode b_Heap_alike 8 = .ok (.invokestatic 129, 3) := by decide +kernel
theorem d_Heap_alike_11 : decode b_Heap_alike 11 = .ok (.ifCond .eq 17, 3) := by decide +kernel
theorem d_Heap_alike_14 : decode b_Heap_alike 14 = .ok (.iload_n 2, 1) := by decide +kernel
theorem d_Heap_alike_15 : decode b_Heap_alike 15 = .ok (.invokestatic 129, 3) := by decide +kernel
theorem d_Heap_alike_18 : decode b_Heap_alike 18 = .ok (.ifCond .eq 10, 3) := by decide +kernel
theorem d_Heap_alike_21 : decode b_Heap_alike 21 = .ok (.aload_n 0, 1) := by decide +kernel
theorem d_Heap_alike_22 : decode b_Heap_alike 22 = .ok (.iload_n 1, 1) := by decide +kernel
theorem d_Heap_alike_23 : decode b_Heap_alike 23 = .ok (.iload_n 2, 1) := by decide +kernel
theorem d_Heap_alike_24 : decode b_Heap_alike 24 = .ok (.invokevirtual 139, 3) := by decide +kernel
theorem d_Heap_alike_27 : decode b_Heap_alike 27 = .ok (.ireturn, 1) := by decide +kernel
theorem d_Heap_alike_28 : decode b_Heap_alike 28 = .ok (.iload_n 1, 1) := by decide +kernel
theorem d_Heap_alike_29 : decode b_Heap_alike 29 = .ok (.invokestatic 143, 3) := by decide +kernel
theorem d_Heap_alike_32 : decode b_Heap_alike 32 = .ok (.ifCond .eq 40, 3) := by decide +kernel
theorem d_Heap_alike_35 : decode b_Heap_alike 35 = .ok (.iload_n 2, 1) := by decide +kernel
theorem d_Heap_alike_36 : decode b_Heap_alike 36 = .ok (.invokestatic 143, 3) := by decide +kernel
theorem d_Heap_alike_39 : decode b_Heap_alike 39 = .ok (.ifCond .eq 33, 3) := by decide +kernel
theorem d_Heap_alike_42 : decode b_Heap_alike 42 = .ok (.aload_n 0, 1) := by decide +kernel
theorem d_Heap_alike_43 : decode b_Heap_alike 43 = .ok (.iload_n 1, 1) := by decide +kernel
theorem d_Heap_alike_44 : decode b_Heap_alike 44 = .ok (.invokevirtual 125, 3) := by decide +kernel
theorem d_Heap_alike_47 : decode b_Heap_alike 47 = .ok (.aload_n 0, 1) := by decide +kernel
theorem d_Heap_alike_48 : decode b_Heap_alike 48 = .ok (.iload_n 2, 1) := by decide +kernel
theorem d_Heap_alike_49 : decode b_Heap_alike 49 = .ok (.invokevirtual 125, 3) := by decide +kernel
theorem d_Heap_alike_52 : decode b_Heap_alike 52 = .ok (.if_icmp .ne 20, 3) := by decide +kernel
theorem d_Heap_alike_55 : decode b_Heap_alike 55 = .ok (.aload_n 0, 1) := by decide +kernel
theorem d_Heap_alike_56 : decode b_Heap_alike 56 = .ok (.iload_n 1, 1) := by decide +kernel
theorem d_Heap_alike_57 : decode b_Heap_alike 57 = .ok (.invokevirtual 119, 3) := by decide +kernel
theorem d_Heap_alike_60 : decode b_Heap_alike 60 = .ok (.aload_n 0, 1) := by decide +kernel
theorem d_Heap_alike_61 : decode b_Heap_alike 61 = .ok (.iload_n 2, 1) := by decide +kernel
theorem d_Heap_alike_62 : decode b_Heap_alike 62 = .ok (.invokevirtual 119, 3) := by decide +kernel
theorem d_Heap_alike_65 : decode b_Heap_alike 65 = .ok (.if_icmp .ne 7, 3) := by decide +kernel
theorem d_Heap_alike_68 : decode b_Heap_alike 68 = .ok (.iconst 1, 1) := by decide +kernel
theorem d_Heap_alike_69 : decode b_Heap_alike 69 = .ok (.goto 4, 3) := by decide +kernel
theorem d_Heap_alike_72 : decode b_Heap_alike 72 = .ok (.iconst 0, 1) := by decide +kernel
theorem d_Heap_alike_73 : decode b_Heap_alike 73 = .ok (.ireturn, 1) := by decide +kernel
theorem lk_Heap_129 : Cond.methodLink "TurtleWorld$Heap" 129 ⟨"TurtleWorld$Heap", "isWord", "(I)Z"⟩ ∈ tw_T := tw_i6 178 (by decide +kernel) (by decide +kernel)
theorem st_Heap_isWord : Cond.static ⟨"TurtleWorld$Heap", "isWord", "(I)Z"⟩ ∈ tw_T := tw_i4 106 (by decide +kernel) (by decide +kernel)
theorem lk_Heap_143 : Cond.methodLink "TurtleWorld$Heap" 143 ⟨"TurtleWorld$Heap", "isList", "(I)Z"⟩ ∈ tw_T := tw_i4 177 (by decide +kernel) (by decide +kernel)
theorem st_Heap_isList : Cond.static ⟨"TurtleWorld$Heap", "isList", "(I)Z"⟩ ∈ tw_T := tw_i4 178 (by decide +kernel) (by decide +kernel)
theorem lk_Heap_119 : Cond.methodLink "TurtleWorld$Heap" 119 ⟨"TurtleWorld$Heap", "size", "(I)I"⟩ ∈ tw_T := tw_i4 63 (by decide +kernel) (by decide +kernel)
theorem in_Heap_size : Cond.instanceMethod ⟨"TurtleWorld$Heap", "size", "(I)I"⟩ ∈ tw_T := tw_i4 64 (by decide +kernel) (by decide +kernel)
theorem sel_Heap_size : Cond.selects "TurtleWorld$Heap" ⟨"TurtleWorld$Heap", "size", "(I)I"⟩ ⟨"TurtleWorld$Heap", "size", "(I)I"⟩ ∈ tw_T := tw_i4 65 (by decide +kernel) (by decide +kernel)
theorem lk_Heap_139 : Cond.methodLink "TurtleWorld$Heap" 139 ⟨"TurtleWorld$Heap", "sameWord", "(II)Z"⟩ ∈ tw_T := tw_i6 179 (by decide +kernel) (by decide +kernel)
def m_Heap_alike_r (e_cells_v : Nat → Int32) (cl : Nat) (a : Int32) (b : Int32) : Int32 := if a = b then 1 else if ((hs_isWord a)) = ((0 : Int32)) then if ((hs_isList a)) = ((0 : Int32)) then 0 else if ((hs_isList b)) = ((0 : Int32)) then 0 else if ((m_Heap_count_r e_cells_v cl a)) = ((m_Heap_count_r e_cells_v cl b)) then if ((m_Heap_size_r e_cells_v cl a)) = ((m_Heap_size_r e_cells_v cl b)) then 1 else 0 else 0 else if ((hs_isWord b)) = ((0 : Int32)) then if ((hs_isList a)) = ((0 : Int32)) then 0 else if ((hs_isList b)) = ((0 : Int32)) then 0 else if ((m_Heap_count_r e_cells_v cl a)) = ((m_Heap_count_r e_cells_v cl b)) then if ((m_Heap_size_r e_cells_v cl a)) = ((m_Heap_size_r e_cells_v cl b)) then 1 else 0 else 0 else m_Heap_sameWord_r e_cells_v cl a b
theorem m_Heap_alike_z {e_cells_v : Nat → Int32} {cl : Nat} {a : Int32} {b : Int32} : narrow .boolean (.int (m_Heap_alike_r e_cells_v cl a b)) = .int (m_Heap_alike_r e_cells_v cl a b) := by
  unfold m_Heap_alike_r
  repeat' split
  all_goals first | exact z01 (sw_01 _ _ _ _) | rfl | decide
set_option maxHeartbeats 4000000 in
set_option maxRecDepth 100000 in
/-- whether two are EQUAL as far as their own cells tell -/
theorem c_Heap_alike (l : Launch) (dC : Nat → ClassId) (dI : Nat → Nat → Nat) (sz : Nat) (h0 : Nat) (e_lexicon : Nat) (e_yes : Int32) (e_no : Int32) (e_errorTag : Int32) (e_fixed : Int32) (e_cells : Nat) (e_spare : Nat) (e_top : Int32) (e_spareTop : Int32) (e_leftLists : Nat) (e_rightLists : Nat) (e_nextMembers : Nat) (e_cells_v : Nat → Int32) (cI : ClassId) (cl : Nat) (a : Int32) (b : Int32) (hcl : cl ≤ 340000) : Met l y_Heap_alike w_Heap_alike ({ frames := 1, cells := 0, slots := 0, locals := 26 }) (va_Pc [.ref h0, .int a, .int b] (fun U => U.heap.size = sz ∧ va_P (dC, dI) classes [(h0, .inr (1, [.ref e_lexicon, .int e_yes, .int e_no, .int e_errorTag, .int e_fixed, .ref e_cells, .ref e_spare, .int e_top, .int e_spareTop, .ref e_leftLists, .ref e_rightLists, .ref e_nextMembers])), (e_cells, .inl (cI, cl, .inl e_cells_v))] U.heap ∧ va_K (dC, dI) classes [(cI, .int)] U ∧ va_D (fun _ => True) [(h0, .inr (1, [.ref e_lexicon, .int e_yes, .int e_no, .int e_errorTag, .int e_fixed, .ref e_cells, .ref e_spare, .int e_top, .int e_spareTop, .ref e_leftLists, .ref e_rightLists, .ref e_nextMembers])), (e_cells, .inl (cI, cl, .inl e_cells_v))])) (va_Qi (fun (r : Int32) (_ : Unit) => r = m_Heap_alike_r e_cells_v cl a b) (fun (_ : Unit) t => va_P (dC, dI) classes [(h0, .inr (1, [.ref e_lexicon, .int e_yes, .int e_no, .int e_errorTag, .int e_fixed, .ref e_cells, .ref e_spare, .int e_top, .int e_spareTop, .ref e_leftLists, .ref e_rightLists, .ref e_nextMembers])), (e_cells, .inl (cI, cl, .inl e_cells_v))] t.heap ∧ va_K (dC, dI) classes [(cI, .int)] t ∧ va_D (va_A [(h0, .inr (1, [.ref e_lexicon, .int e_yes, .int e_no, .int e_errorTag, .int e_fixed, .ref e_cells, .ref e_spare, .int e_top, .int e_spareTop, .ref e_leftLists, .ref e_rightLists, .ref e_nextMembers])), (e_cells, .inl (cI, cl, .inl e_cells_v))] sz) [(h0, .inr (1, [.ref e_lexicon, .int e_yes, .int e_no, .int e_errorTag, .int e_fixed, .ref e_cells, .ref e_spare, .int e_top, .int e_spareTop, .ref e_leftLists, .ref e_rightLists, .ref e_nextMembers])), (e_cells, .inl (cI, cl, .inl e_cells_v))]) (va_A [(h0, .inr (1, [.ref e_lexicon, .int e_yes, .int e_no, .int e_errorTag, .int e_fixed, .ref e_cells, .ref e_spare, .int e_top, .int e_spareTop, .ref e_leftLists, .ref e_rightLists, .ref e_nextMembers])), (e_cells, .inl (cI, cl, .inl e_cells_v))] sz)) 0 0 (va_A [(h0, .inr (1, [.ref e_lexicon, .int e_yes, .int e_no, .int e_errorTag, .int e_fixed, .ref e_cells, .ref e_spare, .int e_top, .int e_spareTop, .ref e_leftLists, .ref e_rightLists, .ref e_nextMembers])), (e_cells, .inl (cI, cl, .inl e_cells_v))] sz) := by
  refine Met.ofW (cc := b_Heap_alike) (maxL := 3) (ret := (some .boolean)) (by decide) rfl ?_
  intro p e s m args below meth c s₁ B hml hv
  obtain ⟨rfl, hsz, hP, hK, hD0⟩ := hv
  have hx := B.exec
  have hb := B.bytes
  have hr := B.returns
  have hts := atoms_spec (ws := w_Heap_alike) B.pre
  have htt : ∀ w ∈ tw_T, w.before _ s = true := fun w h => hts w (List.mem_cons_of_mem _ h)
  have hown : s.vm.findClass R_Heap = some m.cls := findClass_of_methodNamed B.named
  have hlocks := B.notSynchronized
  subst hsz
  have hD := hD0.self (sz := s.heap.size)
  generalize hAe : va_A [(h0, .inr (1, [.ref e_lexicon, .int e_yes, .int e_no, .int e_errorTag, .int e_fixed, .ref e_cells, .ref e_spare, .int e_top, .int e_spareTop, .ref e_leftLists, .ref e_rightLists, .ref e_nextMembers])), (e_cells, .inl (cI, cl, .inl e_cells_v))] s.heap.size = A at hD ⊢
  have hA : ∀ q : Nat, s.heap.size ≤ q → A q := fun q h => by rw [← hAe]; exact Or.inr h
  have hS : va_S A s.heap s.heap [] := va_S.rf
  have hP : va_P (dC, dI) classes [(h0, .inr (1, [.ref e_lexicon, .int e_yes, .int e_no, .int e_errorTag, .int e_fixed, .ref e_cells, .ref e_spare, .int e_top, .int e_spareTop, .ref e_leftLists, .ref e_rightLists, .ref e_nextMembers])), (e_cells, .inl (cI, cl, .inl e_cells_v))] s.heap := hP
  have hl := lv_entry ([.ref h0, .int a, .int b]) (n := 3) (Nat.le_of_ble_eq_true rfl)
  rw [lg_entry_eq]
  generalize (lg_sl ([.ref h0, .int a, .int b]) ++ List.replicate (3 - (lg_sl ([.ref h0, .int a, .int b])).length) Slot.unset).toArray = ls at hl ⊢
  have hl : lv_has ls 3 [(0, .ref h0), (1, .int a), (2, .int b)] := hl
  refine lv_iload_n hx hb d_Heap_alike_0 rfl (lv_at hl 1 rfl) ?_
  refine lv_iload_n hx hb d_Heap_alike_1 rfl (lv_at hl 2 rfl) ?_
  refine lv_icmp_ne (tgt := 7) hx hb d_Heap_alike_2 (by decide) (fun c_1 => ?_) (fun c_1 => ?_)
  · refine lv_iload_n hx hb d_Heap_alike_7 rfl (lv_at hl 1 rfl) ?_
    have hPc := hP.sub (ws' := []) [] rfl
    have hDc := hD.sub (ws' := []) [] (by decide) rfl
    have hKc := hK.sub (tys' := []) [] rfl
    have hFc := va_free (wc := []) hD hS hA [] rfl
    refine va_calli (va_runS (As := [.int a]) (rest := []) ⟨hx, hb, hml, hown, hts⟩ (c_Heap_isWord l dC dI s.heap.size a) (va_cwS 1 hts (tw_GS tw_cons cw_Heap_isWord lk_Heap_129 st_Heap_isWord ini_Heap) rfl rfl rfl (by decide +kernel) ⟨Nat.le_of_ble_eq_true rfl, Nat.le_of_ble_eq_true rfl⟩) ⟨fun a U g mk q => by obtain ⟨q0, q1, qP, qK, qD⟩ := q; exact ⟨q0, q1, qP, va_K.moved (u := U) (U := U.calling g mk a) (Vm.Alike.refl U.vm) qK, qD⟩, fun U hU hW => ⟨rfl, by rw [hU], by rw [hU]; exact hPc, va_K.moved hW.alike hKc, hDc.weaken (fun _ _ _ _ => trivial)⟩⟩ rfl rfl hl.1 rfl (lv_room (Nat.le_of_ble_eq_true rfl)) d_Heap_alike_8 ⟨Nat.le_of_ble_eq_true rfl, Nat.le_of_ble_eq_true rfl⟩) hS (fun q _ h => hFc q h) hFc (fun r9 u9 t9 H1 locs ht hvm e9 hB hz1 hk1 hS => ?_)
    obtain ⟨hP1, hK1, hD1⟩ := hB
    rw [ht] at hP1
    obtain ⟨hP, hD⟩ := va_join (wr := [(h0, .inr (1, [.ref e_lexicon, .int e_yes, .int e_no, .int e_errorTag, .int e_fixed, .ref e_cells, .ref e_spare, .int e_top, .int e_spareTop, .ref e_leftLists, .ref e_rightLists, .ref e_nextMembers])), (e_cells, .inl (cI, cl, .inl e_cells_v))]) (w1 := []) hP hD [] [0, 1] rfl rfl (by decide) (by decide) hk1 hFc hP1 hD1
    subst e9
    clear hP1 hD1 hK1 hvm hz1 hk1 hFc hKc hDc hPc
    subst ht
    generalize t9.heap = H at hP hS ⊢
    have hP : va_P (dC, dI) classes [(h0, .inr (1, [.ref e_lexicon, .int e_yes, .int e_no, .int e_errorTag, .int e_fixed, .ref e_cells, .ref e_spare, .int e_top, .int e_spareTop, .ref e_leftLists, .ref e_rightLists, .ref e_nextMembers])), (e_cells, .inl (cI, cl, .inl e_cells_v))] H := hP
    have hD : va_D A [(h0, .inr (1, [.ref e_lexicon, .int e_yes, .int e_no, .int e_errorTag, .int e_fixed, .ref e_cells, .ref e_spare, .int e_top, .int e_spareTop, .ref e_leftLists, .ref e_rightLists, .ref e_nextMembers])), (e_cells, .inl (cI, cl, .inl e_cells_v))] := hD
    refine lv_if_eq (tgt := 28) hx hb d_Heap_alike_11 (by decide) (fun c_2 => ?_) (fun c_2 => ?_)
    · refine lv_iload_n hx hb d_Heap_alike_28 rfl (lv_at hl 1 rfl) ?_
      have hPc := hP.sub (ws' := []) [] rfl
      have hDc := hD.sub (ws' := []) [] (by decide) rfl
      have hKc := hK.sub (tys' := []) [] rfl
      have hFc := va_free (wc := []) hD hS hA [] rfl
      refine va_calli (va_runS (As := [.int a]) (rest := []) ⟨hx, hb, hml, hown, hts⟩ (c_Heap_isList l dC dI H.size a) (va_cwS 1 hts (tw_GS tw_cons cw_Heap_isList lk_Heap_143 st_Heap_isList ini_Heap) rfl rfl rfl (by decide +kernel) ⟨Nat.le_of_ble_eq_true rfl, Nat.le_of_ble_eq_true rfl⟩) ⟨fun a U g mk q => by obtain ⟨q0, q1, qP, qK, qD⟩ := q; exact ⟨q0, q1, qP, va_K.moved (u := U) (U := U.calling g mk a) (Vm.Alike.refl U.vm) qK, qD⟩, fun U hU hW => ⟨rfl, by rw [hU], by rw [hU]; exact hPc, va_K.moved hW.alike hKc, hDc.weaken (fun _ _ _ _ => trivial)⟩⟩ rfl rfl hl.1 rfl (lv_room (Nat.le_of_ble_eq_true rfl)) d_Heap_alike_29 ⟨Nat.le_of_ble_eq_true rfl, Nat.le_of_ble_eq_true rfl⟩) hS (fun q _ h => hFc q h) hFc (fun r9 u9 t9 H1 locs ht hvm e9 hB hz1 hk1 hS => ?_)
      obtain ⟨hP1, hK1, hD1⟩ := hB
      rw [ht] at hP1
      obtain ⟨hP, hD⟩ := va_join (wr := [(h0, .inr (1, [.ref e_lexicon, .int e_yes, .int e_no, .int e_errorTag, .int e_fixed, .ref e_cells, .ref e_spare, .int e_top, .int e_spareTop, .ref e_leftLists, .ref e_rightLists, .ref e_nextMembers])), (e_cells, .inl (cI, cl, .inl e_cells_v))]) (w1 := []) hP hD [] [0, 1] rfl rfl (by decide) (by decide) hk1 hFc hP1 hD1
      subst e9
      clear hP1 hD1 hK1 hvm hz1 hk1 hFc hKc hDc hPc
      subst ht
      generalize t9.heap = H at hP hS ⊢
      have hP : va_P (dC, dI) classes [(h0, .inr (1, [.ref e_lexicon, .int e_yes, .int e_no, .int e_errorTag, .int e_fixed, .ref e_cells, .ref e_spare, .int e_top, .int e_spareTop, .ref e_leftLists, .ref e_rightLists, .ref e_nextMembers])), (e_cells, .inl (cI, cl, .inl e_cells_v))] H := hP
      have hD : va_D A [(h0, .inr (1, [.ref e_lexicon, .int e_yes, .int e_no, .int e_errorTag, .int e_fixed, .ref e_cells, .ref e_spare, .int e_top, .int e_spareTop, .ref e_leftLists, .ref e_rightLists, .ref e_nextMembers])), (e_cells, .inl (cI, cl, .inl e_cells_v))] := hD
      refine lv_if_eq (tgt := 72) hx hb d_Heap_alike_32 (by decide) (fun c_3 => ?_) (fun c_3 => ?_)
      · refine lv_iconst (v := 0) hx hb d_Heap_alike_72 (by decide) ?_
        have hP9 := hP.sub (ws' := [(h0, .inr (1, [.ref e_lexicon, .int e_yes, .int e_no, .int e_errorTag, .int e_fixed, .ref e_cells, .ref e_spare, .int e_top, .int e_spareTop, .ref e_leftLists, .ref e_rightLists, .ref e_nextMembers])), (e_cells, .inl (cI, cl, .inl e_cells_v))]) [0, 1] rfl
        have hD9 := hD.sub (ws' := [(h0, .inr (1, [.ref e_lexicon, .int e_yes, .int e_no, .int e_errorTag, .int e_fixed, .ref e_cells, .ref e_spare, .int e_top, .int e_spareTop, .ref e_leftLists, .ref e_rightLists, .ref e_nextMembers])), (e_cells, .inl (cI, cl, .inl e_cells_v))]) [0, 1] (by decide) rfl
        exact W.zret (v := 0) hx hb hr (by first | exact z01 (sw_01 _ _ _ _) | exact z01 (Or.inl rfl) | exact z01 (Or.inr rfl)) (fun t9 ht hW => ⟨⟨0, (), rfl, by unfold m_Heap_alike_r; simp only [if_neg c_1, if_pos c_2, if_pos c_3], by rw [ht]; exact hP9, va_K.moved hW.alike hK, hD9⟩, hS.F ht⟩) hS.2.2 d_Heap_alike_73
      · refine lv_iload_n hx hb d_Heap_alike_35 rfl (lv_at hl 2 rfl) ?_
        have hPc := hP.sub (ws' := []) [] rfl
        have hDc := hD.sub (ws' := []) [] (by decide) rfl
        have hKc := hK.sub (tys' := []) [] rfl
        have hFc := va_free (wc := []) hD hS hA [] rfl
        refine va_calli (va_runS (As := [.int b]) (rest := []) ⟨hx, hb, hml, hown, hts⟩ (c_Heap_isList l dC dI H.size b) (va_cwS 1 hts (tw_GS tw_cons cw_Heap_isList lk_Heap_143 st_Heap_isList ini_Heap) rfl rfl rfl (by decide +kernel) ⟨Nat.le_of_ble_eq_true rfl, Nat.le_of_ble_eq_true rfl⟩) ⟨fun a U g mk q => by obtain ⟨q0, q1, qP, qK, qD⟩ := q; exact ⟨q0, q1, qP, va_K.moved (u := U) (U := U.calling g mk a) (Vm.Alike.refl U.vm) qK, qD⟩, fun U hU hW => ⟨rfl, by rw [hU], by rw [hU]; exact hPc, va_K.moved hW.alike hKc, hDc.weaken (fun _ _ _ _ => trivial)⟩⟩ rfl rfl hl.1 rfl (lv_room (Nat.le_of_ble_eq_true rfl)) d_Heap_alike_36 ⟨Nat.le_of_ble_eq_true rfl, Nat.le_of_ble_eq_true rfl⟩) hS (fun q _ h => hFc q h) hFc (fun r9 u9 t9 H1 locs ht hvm e9 hB hz1 hk1 hS => ?_)
        obtain ⟨hP1, hK1, hD1⟩ := hB
        rw [ht] at hP1
        obtain ⟨hP, hD⟩ := va_join (wr := [(h0, .inr (1, [.ref e_lexicon, .int e_yes, .int e_no, .int e_errorTag, .int e_fixed, .ref e_cells, .ref e_spare, .int e_top, .int e_spareTop, .ref e_leftLists, .ref e_rightLists, .ref e_nextMembers])), (e_cells, .inl (cI, cl, .inl e_cells_v))]) (w1 := []) hP hD [] [0, 1] rfl rfl (by decide) (by decide) hk1 hFc hP1 hD1
        subst e9
        clear hP1 hD1 hK1 hvm hz1 hk1 hFc hKc hDc hPc
        subst ht
        generalize t9.heap = H at hP hS ⊢
        have hP : va_P (dC, dI) classes [(h0, .inr (1, [.ref e_lexicon, .int e_yes, .int e_no, .int e_errorTag, .int e_fixed, .ref e_cells, .ref e_spare, .int e_top, .int e_spareTop, .ref e_leftLists, .ref e_rightLists, .ref e_nextMembers])), (e_cells, .inl (cI, cl, .inl e_cells_v))] H := hP
        have hD : va_D A [(h0, .inr (1, [.ref e_lexicon, .int e_yes, .int e_no, .int e_errorTag, .int e_fixed, .ref e_cells, .ref e_spare, .int e_top, .int e_spareTop, .ref e_leftLists, .ref e_rightLists, .ref e_nextMembers])), (e_cells, .inl (cI, cl, .inl e_cells_v))] := hD
        refine lv_if_eq (tgt := 72) hx hb d_Heap_alike_39 (by decide) (fun c_4 => ?_) (fun c_4 => ?_)
        · refine lv_iconst (v := 0) hx hb d_Heap_alike_72 (by decide) ?_
          have hP9 := hP.sub (ws' := [(h0, .inr (1, [.ref e_lexicon, .int e_yes, .int e_no, .int e_errorTag, .int e_fixed, .ref e_cells, .ref e_spare, .int e_top, .int e_spareTop, .ref e_leftLists, .ref e_rightLists, .ref e_nextMembers])), (e_cells, .inl (cI, cl, .inl e_cells_v))]) [0, 1] rfl
          have hD9 := hD.sub (ws' := [(h0, .inr (1, [.ref e_lexicon, .int e_yes, .int e_no, .int e_errorTag, .int e_fixed, .ref e_cells, .ref e_spare, .int e_top, .int e_spareTop, .ref e_leftLists, .ref e_rightLists, .ref e_nextMembers])), (e_cells, .inl (cI, cl, .inl e_cells_v))]) [0, 1] (by decide) rfl
          exact W.zret (v := 0) hx hb hr (by first | exact z01 (sw_01 _ _ _ _) | exact z01 (Or.inl rfl) | exact z01 (Or.inr rfl)) (fun t9 ht hW => ⟨⟨0, (), rfl, by unfold m_Heap_alike_r; simp only [if_neg c_1, if_pos c_2, if_neg c_3, if_pos c_4], by rw [ht]; exact hP9, va_K.moved hW.alike hK, hD9⟩, hS.F ht⟩) hS.2.2 d_Heap_alike_73
        · refine lv_aload_n hx hb d_Heap_alike_42 rfl (lv_at hl 0 rfl) ?_
          refine lv_iload_n hx hb d_Heap_alike_43 rfl (lv_at hl 1 rfl) ?_
          have hPc := hP.sub (ws' := [(h0, .inr (1, [.ref e_lexicon, .int e_yes, .int e_no, .int e_errorTag, .int e_fixed, .ref e_cells, .ref e_spare, .int e_top, .int e_spareTop, .ref e_leftLists, .ref e_rightLists, .ref e_nextMembers])), (e_cells, .inl (cI, cl, .inl e_cells_v))]) [0, 1] rfl
          have hDc := hD.sub (ws' := [(h0, .inr (1, [.ref e_lexicon, .int e_yes, .int e_no, .int e_errorTag, .int e_fixed, .ref e_cells, .ref e_spare, .int e_top, .int e_spareTop, .ref e_leftLists, .ref e_rightLists, .ref e_nextMembers])), (e_cells, .inl (cI, cl, .inl e_cells_v))]) [0, 1] (by decide) rfl
          have hKc := hK.sub (tys' := [(cI, .int)]) [0] rfl
          have hFc := va_free (wc := [(h0, .inr (1, [.ref e_lexicon, .int e_yes, .int e_no, .int e_errorTag, .int e_fixed, .ref e_cells, .ref e_spare, .int e_top, .int e_spareTop, .ref e_leftLists, .ref e_rightLists, .ref e_nextMembers])), (e_cells, .inl (cI, cl, .inl e_cells_v))]) hD hS hA [0, 1] rfl
          refine va_calli (va_runV (As := [.int a]) (rest := []) ⟨hx, hb, hml, hown, hts⟩ (c_Heap_count l dC dI H.size h0 e_lexicon e_yes e_no e_errorTag e_fixed e_cells e_spare e_top e_spareTop e_leftLists e_rightLists e_nextMembers e_cells_v cI cl a (by assumption)) (cwV 1 hts (tw_GV tw_cons cw_Heap_count lk_Heap_125 in_Heap_count sel_Heap_count ini_Heap) rfl rfl rfl (by decide +kernel) ⟨Nat.le_of_ble_eq_true rfl, Nat.le_of_ble_eq_true rfl⟩) ⟨fun a U g mk q => by obtain ⟨q0, q1, qP, qK, qD⟩ := q; exact ⟨q0, q1, qP, va_K.moved (u := U) (U := U.calling g mk a) (Vm.Alike.refl U.vm) qK, qD⟩, va_recv hKc hPc (ci := 1) (q0 := 0) rfl rfl, fun U hU hW => ⟨rfl, by rw [hU], by rw [hU]; exact hPc, va_K.moved hW.alike hKc, hDc.weaken (fun _ _ _ _ => trivial)⟩⟩ rfl rfl hl.1 rfl (lv_room (Nat.le_of_ble_eq_true rfl)) d_Heap_alike_44 ⟨Nat.le_of_ble_eq_true rfl, Nat.le_of_ble_eq_true rfl⟩) hS (fun q _ h => hFc q h) hFc (fun r9 u9 t9 H1 locs ht hvm e9 hB hz1 hk1 hS => ?_)
          obtain ⟨hP1, hK1, hD1⟩ := hB
          rw [ht] at hP1
          obtain ⟨hP, hD⟩ := va_join (wr := []) (w1 := [(h0, .inr (1, [.ref e_lexicon, .int e_yes, .int e_no, .int e_errorTag, .int e_fixed, .ref e_cells, .ref e_spare, .int e_top, .int e_spareTop, .ref e_leftLists, .ref e_rightLists, .ref e_nextMembers])), (e_cells, .inl (cI, cl, .inl e_cells_v))]) hP hD [0, 1] [] rfl rfl (by decide) (by decide) hk1 hFc hP1 hD1
          subst e9
          clear hP1 hD1 hK1 hvm hz1 hk1 hFc hKc hDc hPc
          subst ht
          generalize t9.heap = H at hP hS ⊢
          have hP : va_P (dC, dI) classes [(h0, .inr (1, [.ref e_lexicon, .int e_yes, .int e_no, .int e_errorTag, .int e_fixed, .ref e_cells, .ref e_spare, .int e_top, .int e_spareTop, .ref e_leftLists, .ref e_rightLists, .ref e_nextMembers])), (e_cells, .inl (cI, cl, .inl e_cells_v))] H := hP
          have hD : va_D A [(h0, .inr (1, [.ref e_lexicon, .int e_yes, .int e_no, .int e_errorTag, .int e_fixed, .ref e_cells, .ref e_spare, .int e_top, .int e_spareTop, .ref e_leftLists, .ref e_rightLists, .ref e_nextMembers])), (e_cells, .inl (cI, cl, .inl e_cells_v))] := hD
          refine lv_aload_n hx hb d_Heap_alike_47 rfl (lv_at hl 0 rfl) ?_
          refine lv_iload_n hx hb d_Heap_alike_48 rfl (lv_at hl 2 rfl) ?_
          have hPc := hP.sub (ws' := [(h0, .inr (1, [.ref e_lexicon, .int e_yes, .int e_no, .int e_errorTag, .int e_fixed, .ref e_cells, .ref e_spare, .int e_top, .int e_spareTop, .ref e_leftLists, .ref e_rightLists, .ref e_nextMembers])), (e_cells, .inl (cI, cl, .inl e_cells_v))]) [0, 1] rfl
          have hDc := hD.sub (ws' := [(h0, .inr (1, [.ref e_lexicon, .int e_yes, .int e_no, .int e_errorTag, .int e_fixed, .ref e_cells, .ref e_spare, .int e_top, .int e_spareTop, .ref e_leftLists, .ref e_rightLists, .ref e_nextMembers])), (e_cells, .inl (cI, cl, .inl e_cells_v))]) [0, 1] (by decide) rfl
          have hKc := hK.sub (tys' := [(cI, .int)]) [0] rfl
          have hFc := va_free (wc := [(h0, .inr (1, [.ref e_lexicon, .int e_yes, .int e_no, .int e_errorTag, .int e_fixed, .ref e_cells, .ref e_spare, .int e_top, .int e_spareTop, .ref e_leftLists, .ref e_rightLists, .ref e_nextMembers])), (e_cells, .inl (cI, cl, .inl e_cells_v))]) hD hS hA [0, 1] rfl
          refine va_calli (va_runV (As := [.int b]) (rest := [.int (m_Heap_count_r e_cells_v cl a)]) ⟨hx, hb, hml, hown, hts⟩ (c_Heap_count l dC dI H.size h0 e_lexicon e_yes e_no e_errorTag e_fixed e_cells e_spare e_top e_spareTop e_leftLists e_rightLists e_nextMembers e_cells_v cI cl b (by assumption)) (cwV 1 hts (tw_GV tw_cons cw_Heap_count lk_Heap_125 in_Heap_count sel_Heap_count ini_Heap) rfl rfl rfl (by decide +kernel) ⟨Nat.le_of_ble_eq_true rfl, Nat.le_of_ble_eq_true rfl⟩) ⟨fun a U g mk q => by obtain ⟨q0, q1, qP, qK, qD⟩ := q; exact ⟨q0, q1, qP, va_K.moved (u := U) (U := U.calling g mk a) (Vm.Alike.refl U.vm) qK, qD⟩, va_recv hKc hPc (ci := 1) (q0 := 0) rfl rfl, fun U hU hW => ⟨rfl, by rw [hU], by rw [hU]; exact hPc, va_K.moved hW.alike hKc, hDc.weaken (fun _ _ _ _ => trivial)⟩⟩ rfl rfl hl.1 rfl (lv_room (Nat.le_of_ble_eq_true rfl)) d_Heap_alike_49 ⟨Nat.le_of_ble_eq_true rfl, Nat.le_of_ble_eq_true rfl⟩) hS (fun q _ h => hFc q h) hFc (fun r9 u9 t9 H1 locs ht hvm e9 hB hz1 hk1 hS => ?_)
          obtain ⟨hP1, hK1, hD1⟩ := hB
          rw [ht] at hP1
          obtain ⟨hP, hD⟩ := va_join (wr := []) (w1 := [(h0, .inr (1, [.ref e_lexicon, .int e_yes, .int e_no, .int e_errorTag, .int e_fixed, .ref e_cells, .ref e_spare, .int e_top, .int e_spareTop, .ref e_leftLists, .ref e_rightLists, .ref e_nextMembers])), (e_cells, .inl (cI, cl, .inl e_cells_v))]) hP hD [0, 1] [] rfl rfl (by decide) (by decide) hk1 hFc hP1 hD1
          subst e9
          clear hP1 hD1 hK1 hvm hz1 hk1 hFc hKc hDc hPc
          subst ht
          generalize t9.heap = H at hP hS ⊢
          have hP : va_P (dC, dI) classes [(h0, .inr (1, [.ref e_lexicon, .int e_yes, .int e_no, .int e_errorTag, .int e_fixed, .ref e_cells, .ref e_spare, .int e_top, .int e_spareTop, .ref e_leftLists, .ref e_rightLists, .ref e_nextMembers])), (e_cells, .inl (cI, cl, .inl e_cells_v))] H := hP
          have hD : va_D A [(h0, .inr (1, [.ref e_lexicon, .int e_yes, .int e_no, .int e_errorTag, .int e_fixed, .ref e_cells, .ref e_spare, .int e_top, .int e_spareTop, .ref e_leftLists, .ref e_rightLists, .ref e_nextMembers])), (e_cells, .inl (cI, cl, .inl e_cells_v))] := hD
          refine lv_icmp_ne (tgt := 72) hx hb d_Heap_alike_52 (by decide) (fun c_5 => ?_) (fun c_5 => ?_)
          · refine lv_iconst (v := 0) hx hb d_Heap_alike_72 (by decide) ?_
            have hP9 := hP.sub (ws' := [(h0, .inr (1, [.ref e_lexicon, .int e_yes, .int e_no, .int e_errorTag, .int e_fixed, .ref e_cells, .ref e_spare, .int e_top, .int e_spareTop, .ref e_leftLists, .ref e_rightLists, .ref e_nextMembers])), (e_cells, .inl (cI, cl, .inl e_cells_v))]) [0, 1] rfl
            have hD9 := hD.sub (ws' := [(h0, .inr (1, [.ref e_lexicon, .int e_yes, .int e_no, .int e_errorTag, .int e_fixed, .ref e_cells, .ref e_spare, .int e_top, .int e_spareTop, .ref e_leftLists, .ref e_rightLists, .ref e_nextMembers])), (e_cells, .inl (cI, cl, .inl e_cells_v))]) [0, 1] (by decide) rfl
            exact W.zret (v := 0) hx hb hr (by first | exact z01 (sw_01 _ _ _ _) | exact z01 (Or.inl rfl) | exact z01 (Or.inr rfl)) (fun t9 ht hW => ⟨⟨0, (), rfl, by unfold m_Heap_alike_r; simp only [if_neg c_1, if_pos c_2, if_neg c_3, if_neg c_4, if_neg c_5], by rw [ht]; exact hP9, va_K.moved hW.alike hK, hD9⟩, hS.F ht⟩) hS.2.2 d_Heap_alike_73
          · refine lv_aload_n hx hb d_Heap_alike_55 rfl (lv_at hl 0 rfl) ?_
            refine lv_iload_n hx hb d_Heap_alike_56 rfl (lv_at hl 1 rfl) ?_
            have hPc := hP.sub (ws' := [(h0, .inr (1, [.ref e_lexicon, .int e_yes, .int e_no, .int e_errorTag, .int e_fixed, .ref e_cells, .ref e_spare, .int e_top, .int e_spareTop, .ref e_leftLists, .ref e_rightLists, .ref e_nextMembers])), (e_cells, .inl (cI, cl, .inl e_cells_v))]) [0, 1] rfl
            have hDc := hD.sub (ws' := [(h0, .inr (1, [.ref e_lexicon, .int e_yes, .int e_no, .int e_errorTag, .int e_fixed, .ref e_cells, .ref e_spare, .int e_top, .int e_spareTop, .ref e_leftLists, .ref e_rightLists, .ref e_nextMembers])), (e_cells, .inl (cI, cl, .inl e_cells_v))]) [0, 1] (by decide) rfl
            have hKc := hK.sub (tys' := [(cI, .int)]) [0] rfl
            have hFc := va_free (wc := [(h0, .inr (1, [.ref e_lexicon, .int e_yes, .int e_no, .int e_errorTag, .int e_fixed, .ref e_cells, .ref e_spare, .int e_top, .int e_spareTop, .ref e_leftLists, .ref e_rightLists, .ref e_nextMembers])), (e_cells, .inl (cI, cl, .inl e_cells_v))]) hD hS hA [0, 1] rfl
            refine va_calli (va_runV (As := [.int a]) (rest := []) ⟨hx, hb, hml, hown, hts⟩ (c_Heap_size l dC dI H.size h0 e_lexicon e_yes e_no e_errorTag e_fixed e_cells e_spare e_top e_spareTop e_leftLists e_rightLists e_nextMembers e_cells_v cI cl a (by assumption)) (cwV 1 hts (tw_GV tw_cons cw_Heap_size lk_Heap_119 in_Heap_size sel_Heap_size ini_Heap) rfl rfl rfl (by decide +kernel) ⟨Nat.le_of_ble_eq_true rfl, Nat.le_of_ble_eq_true rfl⟩) ⟨fun a U g mk q => by obtain ⟨q0, q1, qP, qK, qD⟩ := q; exact ⟨q0, q1, qP, va_K.moved (u := U) (U := U.calling g mk a) (Vm.Alike.refl U.vm) qK, qD⟩, va_recv hKc hPc (ci := 1) (q0 := 0) rfl rfl, fun U hU hW => ⟨rfl, by rw [hU], by rw [hU]; exact hPc, va_K.moved hW.alike hKc, hDc.weaken (fun _ _ _ _ => trivial)⟩⟩ rfl rfl hl.1 rfl (lv_room (Nat.le_of_ble_eq_true rfl)) d_Heap_alike_57 ⟨Nat.le_of_ble_eq_true rfl, Nat.le_of_ble_eq_true rfl⟩) hS (fun q _ h => hFc q h) hFc (fun r9 u9 t9 H1 locs ht hvm e9 hB hz1 hk1 hS => ?_)
            obtain ⟨hP1, hK1, hD1⟩ := hB
            rw [ht] at hP1
            obtain ⟨hP, hD⟩ := va_join (wr := []) (w1 := [(h0, .inr (1, [.ref e_lexicon, .int e_yes, .int e_no, .int e_errorTag, .int e_fixed, .ref e_cells, .ref e_spare, .int e_top, .int e_spareTop, .ref e_leftLists, .ref e_rightLists, .ref e_nextMembers])), (e_cells, .inl (cI, cl, .inl e_cells_v))]) hP hD [0, 1] [] rfl rfl (by decide) (by decide) hk1 hFc hP1 hD1
            subst e9
            clear hP1 hD1 hK1 hvm hz1 hk1 hFc hKc hDc hPc
            subst ht
            generalize t9.heap = H at hP hS ⊢
            have hP : va_P (dC, dI) classes [(h0, .inr (1, [.ref e_lexicon, .int e_yes, .int e_no, .int e_errorTag, .int e_fixed, .ref e_cells, .ref e_spare, .int e_top, .int e_spareTop, .ref e_leftLists, .ref e_rightLists, .ref e_nextMembers])), (e_cells, .inl (cI, cl, .inl e_cells_v))] H := hP
            have hD : va_D A [(h0, .inr (1, [.ref e_lexicon, .int e_yes, .int e_no, .int e_errorTag, .int e_fixed, .ref e_cells, .ref e_spare, .int e_top, .int e_spareTop, .ref e_leftLists, .ref e_rightLists, .ref e_nextMembers])), (e_cells, .inl (cI, cl, .inl e_cells_v))] := hD
            refine lv_aload_n hx hb d_Heap_alike_60 rfl (lv_at hl 0 rfl) ?_
            refine lv_iload_n hx hb d_Heap_alike_61 rfl (lv_at hl 2 rfl) ?_
            have hPc := hP.sub (ws' := [(h0, .inr (1, [.ref e_lexicon, .int e_yes, .int e_no, .int e_errorTag, .int e_fixed, .ref e_cells, .ref e_spare, .int e_top, .int e_spareTop, .ref e_leftLists, .ref e_rightLists, .ref e_nextMembers])), (e_cells, .inl (cI, cl, .inl e_cells_v))]) [0, 1] rfl
            have hDc := hD.sub (ws' := [(h0, .inr (1, [.ref e_lexicon, .int e_yes, .int e_no, .int e_errorTag, .int e_fixed, .ref e_cells, .ref e_spare, .int e_top, .int e_spareTop, .ref e_leftLists, .ref e_rightLists, .ref e_nextMembers])), (e_cells, .inl (cI, cl, .inl e_cells_v))]) [0, 1] (by decide) rfl
            have hKc := hK.sub (tys' := [(cI, .int)]) [0] rfl
            have hFc := va_free (wc := [(h0, .inr (1, [.ref e_lexicon, .int e_yes, .int e_no, .int e_errorTag, .int e_fixed, .ref e_cells, .ref e_spare, .int e_top, .int e_spareTop, .ref e_leftLists, .ref e_rightLists, .ref e_nextMembers])), (e_cells, .inl (cI, cl, .inl e_cells_v))]) hD hS hA [0, 1] rfl
            refine va_calli (va_runV (As := [.int b]) (rest := [.int (m_Heap_size_r e_cells_v cl a)]) ⟨hx, hb, hml, hown, hts⟩ (c_Heap_size l dC dI H.size h0 e_lexicon e_yes e_no e_errorTag e_fixed e_cells e_spare e_top e_spareTop e_leftLists e_rightLists e_nextMembers e_cells_v cI cl b (by assumption)) (cwV 1 hts (tw_GV tw_cons cw_Heap_size lk_Heap_119 in_Heap_size sel_Heap_size ini_Heap) rfl rfl rfl (by decide +kernel) ⟨Nat.le_of_ble_eq_true rfl, Nat.le_of_ble_eq_true rfl⟩) ⟨fun a U g mk q => by obtain ⟨q0, q1, qP, qK, qD⟩ := q; exact ⟨q0, q1, qP, va_K.moved (u := U) (U := U.calling g mk a) (Vm.Alike.refl U.vm) qK, qD⟩, va_recv hKc hPc (ci := 1) (q0 := 0) rfl rfl, fun U hU hW => ⟨rfl, by rw [hU], by rw [hU]; exact hPc, va_K.moved hW.alike hKc, hDc.weaken (fun _ _ _ _ => trivial)⟩⟩ rfl rfl hl.1 rfl (lv_room (Nat.le_of_ble_eq_true rfl)) d_Heap_alike_62 ⟨Nat.le_of_ble_eq_true rfl, Nat.le_of_ble_eq_true rfl⟩) hS (fun q _ h => hFc q h) hFc (fun r9 u9 t9 H1 locs ht hvm e9 hB hz1 hk1 hS => ?_)
            obtain ⟨hP1, hK1, hD1⟩ := hB
            rw [ht] at hP1
            obtain ⟨hP, hD⟩ := va_join (wr := []) (w1 := [(h0, .inr (1, [.ref e_lexicon, .int e_yes, .int e_no, .int e_errorTag, .int e_fixed, .ref e_cells, .ref e_spare, .int e_top, .int e_spareTop, .ref e_leftLists, .ref e_rightLists, .ref e_nextMembers])), (e_cells, .inl (cI, cl, .inl e_cells_v))]) hP hD [0, 1] [] rfl rfl (by decide) (by decide) hk1 hFc hP1 hD1
            subst e9
            clear hP1 hD1 hK1 hvm hz1 hk1 hFc hKc hDc hPc
            subst ht
            generalize t9.heap = H at hP hS ⊢
            have hP : va_P (dC, dI) classes [(h0, .inr (1, [.ref e_lexicon, .int e_yes, .int e_no, .int e_errorTag, .int e_fixed, .ref e_cells, .ref e_spare, .int e_top, .int e_spareTop, .ref e_leftLists, .ref e_rightLists, .ref e_nextMembers])), (e_cells, .inl (cI, cl, .inl e_cells_v))] H := hP
            have hD : va_D A [(h0, .inr (1, [.ref e_lexicon, .int e_yes, .int e_no, .int e_errorTag, .int e_fixed, .ref e_cells, .ref e_spare, .int e_top, .int e_spareTop, .ref e_leftLists, .ref e_rightLists, .ref e_nextMembers])), (e_cells, .inl (cI, cl, .inl e_cells_v))] := hD
            refine lv_icmp_ne (tgt := 72) hx hb d_Heap_alike_65 (by decide) (fun c_6 => ?_) (fun c_6 => ?_)
            · refine lv_iconst (v := 0) hx hb d_Heap_alike_72 (by decide) ?_
              have hP9 := hP.sub (ws' := [(h0, .inr (1, [.ref e_lexicon, .int e_yes, .int e_no, .int e_errorTag, .int e_fixed, .ref e_cells, .ref e_spare, .int e_top, .int e_spareTop, .ref e_leftLists, .ref e_rightLists, .ref e_nextMembers])), (e_cells, .inl (cI, cl, .inl e_cells_v))]) [0, 1] rfl
              have hD9 := hD.sub (ws' := [(h0, .inr (1, [.ref e_lexicon, .int e_yes, .int e_no, .int e_errorTag, .int e_fixed, .ref e_cells, .ref e_spare, .int e_top, .int e_spareTop, .ref e_leftLists, .ref e_rightLists, .ref e_nextMembers])), (e_cells, .inl (cI, cl, .inl e_cells_v))]) [0, 1] (by decide) rfl
              exact W.zret (v := 0) hx hb hr (by first | exact z01 (sw_01 _ _ _ _) | exact z01 (Or.inl rfl) | exact z01 (Or.inr rfl)) (fun t9 ht hW => ⟨⟨0, (), rfl, by unfold m_Heap_alike_r; simp only [if_neg c_1, if_pos c_2, if_neg c_3, if_neg c_4, if_pos c_5, if_neg c_6], by rw [ht]; exact hP9, va_K.moved hW.alike hK, hD9⟩, hS.F ht⟩) hS.2.2 d_Heap_alike_73
            · refine lv_iconst (v := 1) hx hb d_Heap_alike_68 (by decide) ?_
              refine lv_goto (tgt := 73) hx hb d_Heap_alike_69 (by decide) ?_
              have hP9 := hP.sub (ws' := [(h0, .inr (1, [.ref e_lexicon, .int e_yes, .int e_no, .int e_errorTag, .int e_fixed, .ref e_cells, .ref e_spare, .int e_top, .int e_spareTop, .ref e_leftLists, .ref e_rightLists, .ref e_nextMembers])), (e_cells, .inl (cI, cl, .inl e_cells_v))]) [0, 1] rfl
              have hD9 := hD.sub (ws' := [(h0, .inr (1, [.ref e_lexicon, .int e_yes, .int e_no, .int e_errorTag, .int e_fixed, .ref e_cells, .ref e_spare, .int e_top, .int e_spareTop, .ref e_leftLists, .ref e_rightLists, .ref e_nextMembers])), (e_cells, .inl (cI, cl, .inl e_cells_v))]) [0, 1] (by decide) rfl
              exact W.zret (v := 1) hx hb hr (by first | exact z01 (sw_01 _ _ _ _) | exact z01 (Or.inl rfl) | exact z01 (Or.inr rfl)) (fun t9 ht hW => ⟨⟨1, (), rfl, by unfold m_Heap_alike_r; simp only [if_neg c_1, if_pos c_2, if_neg c_3, if_neg c_4, if_pos c_5, if_pos c_6], by rw [ht]; exact hP9, va_K.moved hW.alike hK, hD9⟩, hS.F ht⟩) hS.2.2 d_Heap_alike_73
    · refine lv_iload_n hx hb d_Heap_alike_14 rfl (lv_at hl 2 rfl) ?_
      have hPc := hP.sub (ws' := []) [] rfl
      have hDc := hD.sub (ws' := []) [] (by decide) rfl
      have hKc := hK.sub (tys' := []) [] rfl
      have hFc := va_free (wc := []) hD hS hA [] rfl
      refine va_calli (va_runS (As := [.int b]) (rest := []) ⟨hx, hb, hml, hown, hts⟩ (c_Heap_isWord l dC dI H.size b) (va_cwS 1 hts (tw_GS tw_cons cw_Heap_isWord lk_Heap_129 st_Heap_isWord ini_Heap) rfl rfl rfl (by decide +kernel) ⟨Nat.le_of_ble_eq_true rfl, Nat.le_of_ble_eq_true rfl⟩) ⟨fun a U g mk q => by obtain ⟨q0, q1, qP, qK, qD⟩ := q; exact ⟨q0, q1, qP, va_K.moved (u := U) (U := U.calling g mk a) (Vm.Alike.refl U.vm) qK, qD⟩, fun U hU hW => ⟨rfl, by rw [hU], by rw [hU]; exact hPc, va_K.moved hW.alike hKc, hDc.weaken (fun _ _ _ _ => trivial)⟩⟩ rfl rfl hl.1 rfl (lv_room (Nat.le_of_ble_eq_true rfl)) d_Heap_alike_15 ⟨Nat.le_of_ble_eq_true rfl, Nat.le_of_ble_eq_true rfl⟩) hS (fun q _ h => hFc q h) hFc (fun r9 u9 t9 H1 locs ht hvm e9 hB hz1 hk1 hS => ?_)
      obtain ⟨hP1, hK1, hD1⟩ := hB
      rw [ht] at hP1
      obtain ⟨hP, hD⟩ := va_join (wr := [(h0, .inr (1, [.ref e_lexicon, .int e_yes, .int e_no, .int e_errorTag, .int e_fixed, .ref e_cells, .ref e_spare, .int e_top, .int e_spareTop, .ref e_leftLists, .ref e_rightLists, .ref e_nextMembers])), (e_cells, .inl (cI, cl, .inl e_cells_v))]) (w1 := []) hP hD [] [0, 1] rfl rfl (by decide) (by decide) hk1 hFc hP1 hD1
      subst e9
      clear hP1 hD1 hK1 hvm hz1 hk1 hFc hKc hDc hPc
      subst ht
      generalize t9.heap = H at hP hS ⊢
      have hP : va_P (dC, dI) classes [(h0, .inr (1, [.ref e_lexicon, .int e_yes, .int e_no, .int e_errorTag, .int e_fixed, .ref e_cells, .ref e_spare, .int e_top, .int e_spareTop, .ref e_leftLists, .ref e_rightLists, .ref e_nextMembers])), (e_cells, .inl (cI, cl, .inl e_cells_v))] H := hP
      have hD : va_D A [(h0, .inr (1, [.ref e_lexicon, .int e_yes, .int e_no, .int e_errorTag, .int e_fixed, .ref e_cells, .ref e_spare, .int e_top, .int e_spareTop, .ref e_leftLists, .ref e_rightLists, .ref e_nextMembers])), (e_cells, .inl (cI, cl, .inl e_cells_v))] := hD
      refine lv_if_eq (tgt := 28) hx hb d_Heap_alike_18 (by decide) (fun c_7 => ?_) (fun c_7 => ?_)
      · refine lv_iload_n hx hb d_Heap_alike_28 rfl (lv_at hl 1 rfl) ?_
        have hPc := hP.sub (ws' := []) [] rfl
        have hDc := hD.sub (ws' := []) [] (by decide) rfl
        have hKc := hK.sub (tys' := []) [] rfl
        have hFc := va_free (wc := []) hD hS hA [] rfl
        refine va_calli (va_runS (As := [.int a]) (rest := []) ⟨hx, hb, hml, hown, hts⟩ (c_Heap_isList l dC dI H.size a) (va_cwS 1 hts (tw_GS tw_cons cw_Heap_isList lk_Heap_143 st_Heap_isList ini_Heap) rfl rfl rfl (by decide +kernel) ⟨Nat.le_of_ble_eq_true rfl, Nat.le_of_ble_eq_true rfl⟩) ⟨fun a U g mk q => by obtain ⟨q0, q1, qP, qK, qD⟩ := q; exact ⟨q0, q1, qP, va_K.moved (u := U) (U := U.calling g mk a) (Vm.Alike.refl U.vm) qK, qD⟩, fun U hU hW => ⟨rfl, by rw [hU], by rw [hU]; exact hPc, va_K.moved hW.alike hKc, hDc.weaken (fun _ _ _ _ => trivial)⟩⟩ rfl rfl hl.1 rfl (lv_room (Nat.le_of_ble_eq_true rfl)) d_Heap_alike_29 ⟨Nat.le_of_ble_eq_true rfl, Nat.le_of_ble_eq_true rfl⟩) hS (fun q _ h => hFc q h) hFc (fun r9 u9 t9 H1 locs ht hvm e9 hB hz1 hk1 hS => ?_)
        obtain ⟨hP1, hK1, hD1⟩ := hB
        rw [ht] at hP1
        obtain ⟨hP, hD⟩ := va_join (wr := [(h0, .inr (1, [.ref e_lexicon, .int e_yes, .int e_no, .int e_errorTag, .int e_fixed, .ref e_cells, .ref e_spare, .int e_top, .int e_spareTop, .ref e_leftLists, .ref e_rightLists, .ref e_nextMembers])), (e_cells, .inl (cI, cl, .inl e_cells_v))]) (w1 := []) hP hD [] [0, 1] rfl rfl (by decide) (by decide) hk1 hFc hP1 hD1
        subst e9
        clear hP1 hD1 hK1 hvm hz1 hk1 hFc hKc hDc hPc
        subst ht
        generalize t9.heap = H at hP hS ⊢
        have hP : va_P (dC, dI) classes [(h0, .inr (1, [.ref e_lexicon, .int e_yes, .int e_no, .int e_errorTag, .int e_fixed, .ref e_cells, .ref e_spare, .int e_top, .int e_spareTop, .ref e_leftLists, .ref e_rightLists, .ref e_nextMembers])), (e_cells, .inl (cI, cl, .inl e_cells_v))] H := hP
        have hD : va_D A [(h0, .inr (1, [.ref e_lexicon, .int e_yes, .int e_no, .int e_errorTag, .int e_fixed, .ref e_cells, .ref e_spare, .int e_top, .int e_spareTop, .ref e_leftLists, .ref e_rightLists, .ref e_nextMembers])), (e_cells, .inl (cI, cl, .inl e_cells_v))] := hD
        refine lv_if_eq (tgt := 72) hx hb d_Heap_alike_32 (by decide) (fun c_8 => ?_) (fun c_8 => ?_)
        · refine lv_iconst (v := 0) hx hb d_Heap_alike_72 (by decide) ?_
          have hP9 := hP.sub (ws' := [(h0, .inr (1, [.ref e_lexicon, .int e_yes, .int e_no, .int e_errorTag, .int e_fixed, .ref e_cells, .ref e_spare, .int e_top, .int e_spareTop, .ref e_leftLists, .ref e_rightLists, .ref e_nextMembers])), (e_cells, .inl (cI, cl, .inl e_cells_v))]) [0, 1] rfl
          have hD9 := hD.sub (ws' := [(h0, .inr (1, [.ref e_lexicon, .int e_yes, .int e_no, .int e_errorTag, .int e_fixed, .ref e_cells, .ref e_spare, .int e_top, .int e_spareTop, .ref e_leftLists, .ref e_rightLists, .ref e_nextMembers])), (e_cells, .inl (cI, cl, .inl e_cells_v))]) [0, 1] (by decide) rfl
          exact W.zret (v := 0) hx hb hr (by first | exact z01 (sw_01 _ _ _ _) | exact z01 (Or.inl rfl) | exact z01 (Or.inr rfl)) (fun t9 ht hW => ⟨⟨0, (), rfl, by unfold m_Heap_alike_r; simp only [if_neg c_1, if_neg c_2, if_pos c_7, if_pos c_8], by rw [ht]; exact hP9, va_K.moved hW.alike hK, hD9⟩, hS.F ht⟩) hS.2.2 d_Heap_alike_73
        · refine lv_iload_n hx hb d_Heap_alike_35 rfl (lv_at hl 2 rfl) ?_
          have hPc := hP.sub (ws' := []) [] rfl
          have hDc := hD.sub (ws' := []) [] (by decide) rfl
          have hKc := hK.sub (tys' := []) [] rfl
          have hFc := va_free (wc := []) hD hS hA [] rfl
          refine va_calli (va_runS (As := [.int b]) (rest := []) ⟨hx, hb, hml, hown, hts⟩ (c_Heap_isList l dC dI H.size b) (va_cwS 1 hts (tw_GS tw_cons cw_Heap_isList lk_Heap_143 st_Heap_isList ini_Heap) rfl rfl rfl (by decide +kernel) ⟨Nat.le_of_ble_eq_true rfl, Nat.le_of_ble_eq_true rfl⟩) ⟨fun a U g mk q => by obtain ⟨q0, q1, qP, qK, qD⟩ := q; exact ⟨q0, q1, qP, va_K.moved (u := U) (U := U.calling g mk a) (Vm.Alike.refl U.vm) qK, qD⟩, fun U hU hW => ⟨rfl, by rw [hU], by rw [hU]; exact hPc, va_K.moved hW.alike hKc, hDc.weaken (fun _ _ _ _ => trivial)⟩⟩ rfl rfl hl.1 rfl (lv_room (Nat.le_of_ble_eq_true rfl)) d_Heap_alike_36 ⟨Nat.le_of_ble_eq_true rfl, Nat.le_of_ble_eq_true rfl⟩) hS (fun q _ h => hFc q h) hFc (fun r9 u9 t9 H1 locs ht hvm e9 hB hz1 hk1 hS => ?_)
          obtain ⟨hP1, hK1, hD1⟩ := hB
          rw [ht] at hP1
          obtain ⟨hP, hD⟩ := va_join (wr := [(h0, .inr (1, [.ref e_lexicon, .int e_yes, .int e_no, .int e_errorTag, .int e_fixed, .ref e_cells, .ref e_spare, .int e_top, .int e_spareTop, .ref e_leftLists, .ref e_rightLists, .ref e_nextMembers])), (e_cells, .inl (cI, cl, .inl e_cells_v))]) (w1 := []) hP hD [] [0, 1] rfl rfl (by decide) (by decide) hk1 hFc hP1 hD1
          subst e9
          clear hP1 hD1 hK1 hvm hz1 hk1 hFc hKc hDc hPc
          subst ht
          generalize t9.heap = H at hP hS ⊢
          have hP : va_P (dC, dI) classes [(h0, .inr (1, [.ref e_lexicon, .int e_yes, .int e_no, .int e_errorTag, .int e_fixed, .ref e_cells, .ref e_spare, .int e_top, .int e_spareTop, .ref e_leftLists, .ref e_rightLists, .ref e_nextMembers])), (e_cells, .inl (cI, cl, .inl e_cells_v))] H := hP
          have hD : va_D A [(h0, .inr (1, [.ref e_lexicon, .int e_yes, .int e_no, .int e_errorTag, .int e_fixed, .ref e_cells, .ref e_spare, .int e_top, .int e_spareTop, .ref e_leftLists, .ref e_rightLists, .ref e_nextMembers])), (e_cells, .inl (cI, cl, .inl e_cells_v))] := hD
          refine lv_if_eq (tgt := 72) hx hb d_Heap_alike_39 (by decide) (fun c_9 => ?_) (fun c_9 => ?_)
          · refine lv_iconst (v := 0) hx hb d_Heap_alike_72 (by decide) ?_
            have hP9 := hP.sub (ws' := [(h0, .inr (1, [.ref e_lexicon, .int e_yes, .int e_no, .int e_errorTag, .int e_fixed, .ref e_cells, .ref e_spare, .int e_top, .int e_spareTop, .ref e_leftLists, .ref e_rightLists, .ref e_nextMembers])), (e_cells, .inl (cI, cl, .inl e_cells_v))]) [0, 1] rfl
            have hD9 := hD.sub (ws' := [(h0, .inr (1, [.ref e_lexicon, .int e_yes, .int e_no, .int e_errorTag, .int e_fixed, .ref e_cells, .ref e_spare, .int e_top, .int e_spareTop, .ref e_leftLists, .ref e_rightLists, .ref e_nextMembers])), (e_cells, .inl (cI, cl, .inl e_cells_v))]) [0, 1] (by decide) rfl
            exact W.zret (v := 0) hx hb hr (by first | exact z01 (sw_01 _ _ _ _) | exact z01 (Or.inl rfl) | exact z01 (Or.inr rfl)) (fun t9 ht hW => ⟨⟨0, (), rfl, by unfold m_Heap_alike_r; simp only [if_neg c_1, if_neg c_2, if_pos c_7, if_neg c_8, if_pos c_9], by rw [ht]; exact hP9, va_K.moved hW.alike hK, hD9⟩, hS.F ht⟩) hS.2.2 d_Heap_alike_73
          · refine lv_aload_n hx hb d_Heap_alike_42 rfl (lv_at hl 0 rfl) ?_
            refine lv_iload_n hx hb d_Heap_alike_43 rfl (lv_at hl 1 rfl) ?_
            have hPc := hP.sub (ws' := [(h0, .inr (1, [.ref e_lexicon, .int e_yes, .int e_no, .int e_errorTag, .int e_fixed, .ref e_cells, .ref e_spare, .int e_top, .int e_spareTop, .ref e_leftLists, .ref e_rightLists, .ref e_nextMembers])), (e_cells, .inl (cI, cl, .inl e_cells_v))]) [0, 1] rfl
            have hDc := hD.sub (ws' := [(h0, .inr (1, [.ref e_lexicon, .int e_yes, .int e_no, .int e_errorTag, .int e_fixed, .ref e_cells, .ref e_spare, .int e_top, .int e_spareTop, .ref e_leftLists, .ref e_rightLists, .ref e_nextMembers])), (e_cells, .inl (cI, cl, .inl e_cells_v))]) [0, 1] (by decide) rfl
            have hKc := hK.sub (tys' := [(cI, .int)]) [0] rfl
            have hFc := va_free (wc := [(h0, .inr (1, [.ref e_lexicon, .int e_yes, .int e_no, .int e_errorTag, .int e_fixed, .ref e_cells, .ref e_spare, .int e_top, .int e_spareTop, .ref e_leftLists, .ref e_rightLists, .ref e_nextMembers])), (e_cells, .inl (cI, cl, .inl e_cells_v))]) hD hS hA [0, 1] rfl
            refine va_calli (va_runV (As := [.int a]) (rest := []) ⟨hx, hb, hml, hown, hts⟩ (c_Heap_count l dC dI H.size h0 e_lexicon e_yes e_no e_errorTag e_fixed e_cells e_spare e_top e_spareTop e_leftLists e_rightLists e_nextMembers e_cells_v cI cl a (by assumption)) (cwV 1 hts (tw_GV tw_cons cw_Heap_count lk_Heap_125 in_Heap_count sel_Heap_count ini_Heap) rfl rfl rfl (by decide +kernel) ⟨Nat.le_of_ble_eq_true rfl, Nat.le_of_ble_eq_true rfl⟩) ⟨fun a U g mk q => by obtain ⟨q0, q1, qP, qK, qD⟩ := q; exact ⟨q0, q1, qP, va_K.moved (u := U) (U := U.calling g mk a) (Vm.Alike.refl U.vm) qK, qD⟩, va_recv hKc hPc (ci := 1) (q0 := 0) rfl rfl, fun U hU hW => ⟨rfl, by rw [hU], by rw [hU]; exact hPc, va_K.moved hW.alike hKc, hDc.weaken (fun _ _ _ _ => trivial)⟩⟩ rfl rfl hl.1 rfl (lv_room (Nat.le_of_ble_eq_true rfl)) d_Heap_alike_44 ⟨Nat.le_of_ble_eq_true rfl, Nat.le_of_ble_eq_true rfl⟩) hS (fun q _ h => hFc q h) hFc (fun r9 u9 t9 H1 locs ht hvm e9 hB hz1 hk1 hS => ?_)
            obtain ⟨hP1, hK1, hD1⟩ := hB
            rw [ht] at hP1
            obtain ⟨hP, hD⟩ := va_join (wr := []) (w1 := [(h0, .inr (1, [.ref e_lexicon, .int e_yes, .int e_no, .int e_errorTag, .int e_fixed, .ref e_cells, .ref e_spare, .int e_top, .int e_spareTop, .ref e_leftLists, .ref e_rightLists, .ref e_nextMembers])), (e_cells, .inl (cI, cl, .inl e_cells_v))]) hP hD [0, 1] [] rfl rfl (by decide) (by decide) hk1 hFc hP1 hD1
            subst e9
            clear hP1 hD1 hK1 hvm hz1 hk1 hFc hKc hDc hPc
            subst ht
            generalize t9.heap = H at hP hS ⊢
            have hP : va_P (dC, dI) classes [(h0, .inr (1, [.ref e_lexicon, .int e_yes, .int e_no, .int e_errorTag, .int e_fixed, .ref e_cells, .ref e_spare, .int e_top, .int e_spareTop, .ref e_leftLists, .ref e_rightLists, .ref e_nextMembers])), (e_cells, .inl (cI, cl, .inl e_cells_v))] H := hP
            have hD : va_D A [(h0, .inr (1, [.ref e_lexicon, .int e_yes, .int e_no, .int e_errorTag, .int e_fixed, .ref e_cells, .ref e_spare, .int e_top, .int e_spareTop, .ref e_leftLists, .ref e_rightLists, .ref e_nextMembers])), (e_cells, .inl (cI, cl, .inl e_cells_v))] := hD
            refine lv_aload_n hx hb d_Heap_alike_47 rfl (lv_at hl 0 rfl) ?_
            refine lv_iload_n hx hb d_Heap_alike_48 rfl (lv_at hl 2 rfl) ?_
            have hPc := hP.sub (ws' := [(h0, .inr (1, [.ref e_lexicon, .int e_yes, .int e_no, .int e_errorTag, .int e_fixed, .ref e_cells, .ref e_spare, .int e_top, .int e_spareTop, .ref e_leftLists, .ref e_rightLists, .ref e_nextMembers])), (e_cells, .inl (cI, cl, .inl e_cells_v))]) [0, 1] rfl
            have hDc := hD.sub (ws' := [(h0, .inr (1, [.ref e_lexicon, .int e_yes, .int e_no, .int e_errorTag, .int e_fixed, .ref e_cells, .ref e_spare, .int e_top, .int e_spareTop, .ref e_leftLists, .ref e_rightLists, .ref e_nextMembers])), (e_cells, .inl (cI, cl, .inl e_cells_v))]) [0, 1] (by decide) rfl
            have hKc := hK.sub (tys' := [(cI, .int)]) [0] rfl
            have hFc := va_free (wc := [(h0, .inr (1, [.ref e_lexicon, .int e_yes, .int e_no, .int e_errorTag, .int e_fixed, .ref e_cells, .ref e_spare, .int e_top, .int e_spareTop, .ref e_leftLists, .ref e_rightLists, .ref e_nextMembers])), (e_cells, .inl (cI, cl, .inl e_cells_v))]) hD hS hA [0, 1] rfl
            refine va_calli (va_runV (As := [.int b]) (rest := [.int (m_Heap_count_r e_cells_v cl a)]) ⟨hx, hb, hml, hown, hts⟩ (c_Heap_count l dC dI H.size h0 e_lexicon e_yes e_no e_errorTag e_fixed e_cells e_spare e_top e_spareTop e_leftLists e_rightLists e_nextMembers e_cells_v cI cl b (by assumption)) (cwV 1 hts (tw_GV tw_cons cw_Heap_count lk_Heap_125 in_Heap_count sel_Heap_count ini_Heap) rfl rfl rfl (by decide +kernel) ⟨Nat.le_of_ble_eq_true rfl, Nat.le_of_ble_eq_true rfl⟩) ⟨fun a U g mk q => by obtain ⟨q0, q1, qP, qK, qD⟩ := q; exact ⟨q0, q1, qP, va_K.moved (u := U) (U := U.calling g mk a) (Vm.Alike.refl U.vm) qK, qD⟩, va_recv hKc hPc (ci := 1) (q0 := 0) rfl rfl, fun U hU hW => ⟨rfl, by rw [hU], by rw [hU]; exact hPc, va_K.moved hW.alike hKc, hDc.weaken (fun _ _ _ _ => trivial)⟩⟩ rfl rfl hl.1 rfl (lv_room (Nat.le_of_ble_eq_true rfl)) d_Heap_alike_49 ⟨Nat.le_of_ble_eq_true rfl, Nat.le_of_ble_eq_true rfl⟩) hS (fun q _ h => hFc q h) hFc (fun r9 u9 t9 H1 locs ht hvm e9 hB hz1 hk1 hS => ?_)
            obtain ⟨hP1, hK1, hD1⟩ := hB
            rw [ht] at hP1
            obtain ⟨hP, hD⟩ := va_join (wr := []) (w1 := [(h0, .inr (1, [.ref e_lexicon, .int e_yes, .int e_no, .int e_errorTag, .int e_fixed, .ref e_cells, .ref e_spare, .int e_top, .int e_spareTop, .ref e_leftLists, .ref e_rightLists, .ref e_nextMembers])), (e_cells, .inl (cI, cl, .inl e_cells_v))]) hP hD [0, 1] [] rfl rfl (by decide) (by decide) hk1 hFc hP1 hD1
            subst e9
            clear hP1 hD1 hK1 hvm hz1 hk1 hFc hKc hDc hPc
            subst ht
            generalize t9.heap = H at hP hS ⊢
            have hP : va_P (dC, dI) classes [(h0, .inr (1, [.ref e_lexicon, .int e_yes, .int e_no, .int e_errorTag, .int e_fixed, .ref e_cells, .ref e_spare, .int e_top, .int e_spareTop, .ref e_leftLists, .ref e_rightLists, .ref e_nextMembers])), (e_cells, .inl (cI, cl, .inl e_cells_v))] H := hP
            have hD : va_D A [(h0, .inr (1, [.ref e_lexicon, .int e_yes, .int e_no, .int e_errorTag, .int e_fixed, .ref e_cells, .ref e_spare, .int e_top, .int e_spareTop, .ref e_leftLists, .ref e_rightLists, .ref e_nextMembers])), (e_cells, .inl (cI, cl, .inl e_cells_v))] := hD
            refine lv_icmp_ne (tgt := 72) hx hb d_Heap_alike_52 (by decide) (fun c_10 => ?_) (fun c_10 => ?_)
            · refine lv_iconst (v := 0) hx hb d_Heap_alike_72 (by decide) ?_
              have hP9 := hP.sub (ws' := [(h0, .inr (1, [.ref e_lexicon, .int e_yes, .int e_no, .int e_errorTag, .int e_fixed, .ref e_cells, .ref e_spare, .int e_top, .int e_spareTop, .ref e_leftLists, .ref e_rightLists, .ref e_nextMembers])), (e_cells, .inl (cI, cl, .inl e_cells_v))]) [0, 1] rfl
              have hD9 := hD.sub (ws' := [(h0, .inr (1, [.ref e_lexicon, .int e_yes, .int e_no, .int e_errorTag, .int e_fixed, .ref e_cells, .ref e_spare, .int e_top, .int e_spareTop, .ref e_leftLists, .ref e_rightLists, .ref e_nextMembers])), (e_cells, .inl (cI, cl, .inl e_cells_v))]) [0, 1] (by decide) rfl
              exact W.zret (v := 0) hx hb hr (by first | exact z01 (sw_01 _ _ _ _) | exact z01 (Or.inl rfl) | exact z01 (Or.inr rfl)) (fun t9 ht hW => ⟨⟨0, (), rfl, by unfold m_Heap_alike_r; simp only [if_neg c_1, if_neg c_2, if_pos c_7, if_neg c_8, if_neg c_9, if_neg c_10], by rw [ht]; exact hP9, va_K.moved hW.alike hK, hD9⟩, hS.F ht⟩) hS.2.2 d_Heap_alike_73
            · refine lv_aload_n hx hb d_Heap_alike_55 rfl (lv_at hl 0 rfl) ?_
              refine lv_iload_n hx hb d_Heap_alike_56 rfl (lv_at hl 1 rfl) ?_
              have hPc := hP.sub (ws' := [(h0, .inr (1, [.ref e_lexicon, .int e_yes, .int e_no, .int e_errorTag, .int e_fixed, .ref e_cells, .ref e_spare, .int e_top, .int e_spareTop, .ref e_leftLists, .ref e_rightLists, .ref e_nextMembers])), (e_cells, .inl (cI, cl, .inl e_cells_v))]) [0, 1] rfl
              have hDc := hD.sub (ws' := [(h0, .inr (1, [.ref e_lexicon, .int e_yes, .int e_no, .int e_errorTag, .int e_fixed, .ref e_cells, .ref e_spare, .int e_top, .int e_spareTop, .ref e_leftLists, .ref e_rightLists, .ref e_nextMembers])), (e_cells, .inl (cI, cl, .inl e_cells_v))]) [0, 1] (by decide) rfl
              have hKc := hK.sub (tys' := [(cI, .int)]) [0] rfl
              have hFc := va_free (wc := [(h0, .inr (1, [.ref e_lexicon, .int e_yes, .int e_no, .int e_errorTag, .int e_fixed, .ref e_cells, .ref e_spare, .int e_top, .int e_spareTop, .ref e_leftLists, .ref e_rightLists, .ref e_nextMembers])), (e_cells, .inl (cI, cl, .inl e_cells_v))]) hD hS hA [0, 1] rfl
              refine va_calli (va_runV (As := [.int a]) (rest := []) ⟨hx, hb, hml, hown, hts⟩ (c_Heap_size l dC dI H.size h0 e_lexicon e_yes e_no e_errorTag e_fixed e_cells e_spare e_top e_spareTop e_leftLists e_rightLists e_nextMembers e_cells_v cI cl a (by assumption)) (cwV 1 hts (tw_GV tw_cons cw_Heap_size lk_Heap_119 in_Heap_size sel_Heap_size ini_Heap) rfl rfl rfl (by decide +kernel) ⟨Nat.le_of_ble_eq_true rfl, Nat.le_of_ble_eq_true rfl⟩) ⟨fun a U g mk q => by obtain ⟨q0, q1, qP, qK, qD⟩ := q; exact ⟨q0, q1, qP, va_K.moved (u := U) (U := U.calling g mk a) (Vm.Alike.refl U.vm) qK, qD⟩, va_recv hKc hPc (ci := 1) (q0 := 0) rfl rfl, fun U hU hW => ⟨rfl, by rw [hU], by rw [hU]; exact hPc, va_K.moved hW.alike hKc, hDc.weaken (fun _ _ _ _ => trivial)⟩⟩ rfl rfl hl.1 rfl (lv_room (Nat.le_of_ble_eq_true rfl)) d_Heap_alike_57 ⟨Nat.le_of_ble_eq_true rfl, Nat.le_of_ble_eq_true rfl⟩) hS (fun q _ h => hFc q h) hFc (fun r9 u9 t9 H1 locs ht hvm e9 hB hz1 hk1 hS => ?_)
              obtain ⟨hP1, hK1, hD1⟩ := hB
              rw [ht] at hP1
              obtain ⟨hP, hD⟩ := va_join (wr := []) (w1 := [(h0, .inr (1, [.ref e_lexicon, .int e_yes, .int e_no, .int e_errorTag, .int e_fixed, .ref e_cells, .ref e_spare, .int e_top, .int e_spareTop, .ref e_leftLists, .ref e_rightLists, .ref e_nextMembers])), (e_cells, .inl (cI, cl, .inl e_cells_v))]) hP hD [0, 1] [] rfl rfl (by decide) (by decide) hk1 hFc hP1 hD1
              subst e9
              clear hP1 hD1 hK1 hvm hz1 hk1 hFc hKc hDc hPc
              subst ht
              generalize t9.heap = H at hP hS ⊢
              have hP : va_P (dC, dI) classes [(h0, .inr (1, [.ref e_lexicon, .int e_yes, .int e_no, .int e_errorTag, .int e_fixed, .ref e_cells, .ref e_spare, .int e_top, .int e_spareTop, .ref e_leftLists, .ref e_rightLists, .ref e_nextMembers])), (e_cells, .inl (cI, cl, .inl e_cells_v))] H := hP
              have hD : va_D A [(h0, .inr (1, [.ref e_lexicon, .int e_yes, .int e_no, .int e_errorTag, .int e_fixed, .ref e_cells, .ref e_spare, .int e_top, .int e_spareTop, .ref e_leftLists, .ref e_rightLists, .ref e_nextMembers])), (e_cells, .inl (cI, cl, .inl e_cells_v))] := hD
              refine lv_aload_n hx hb d_Heap_alike_60 rfl (lv_at hl 0 rfl) ?_
              refine lv_iload_n hx hb d_Heap_alike_61 rfl (lv_at hl 2 rfl) ?_
              have hPc := hP.sub (ws' := [(h0, .inr (1, [.ref e_lexicon, .int e_yes, .int e_no, .int e_errorTag, .int e_fixed, .ref e_cells, .ref e_spare, .int e_top, .int e_spareTop, .ref e_leftLists, .ref e_rightLists, .ref e_nextMembers])), (e_cells, .inl (cI, cl, .inl e_cells_v))]) [0, 1] rfl
              have hDc := hD.sub (ws' := [(h0, .inr (1, [.ref e_lexicon, .int e_yes, .int e_no, .int e_errorTag, .int e_fixed, .ref e_cells, .ref e_spare, .int e_top, .int e_spareTop, .ref e_leftLists, .ref e_rightLists, .ref e_nextMembers])), (e_cells, .inl (cI, cl, .inl e_cells_v))]) [0, 1] (by decide) rfl
              have hKc := hK.sub (tys' := [(cI, .int)]) [0] rfl
              have hFc := va_free (wc := [(h0, .inr (1, [.ref e_lexicon, .int e_yes, .int e_no, .int e_errorTag, .int e_fixed, .ref e_cells, .ref e_spare, .int e_top, .int e_spareTop, .ref e_leftLists, .ref e_rightLists, .ref e_nextMembers])), (e_cells, .inl (cI, cl, .inl e_cells_v))]) hD hS hA [0, 1] rfl
              refine va_calli (va_runV (As := [.int b]) (rest := [.int (m_Heap_size_r e_cells_v cl a)]) ⟨hx, hb, hml, hown, hts⟩ (c_Heap_size l dC dI H.size h0 e_lexicon e_yes e_no e_errorTag e_fixed e_cells e_spare e_top e_spareTop e_leftLists e_rightLists e_nextMembers e_cells_v cI cl b (by assumption)) (cwV 1 hts (tw_GV tw_cons cw_Heap_size lk_Heap_119 in_Heap_size sel_Heap_size ini_Heap) rfl rfl rfl (by decide +kernel) ⟨Nat.le_of_ble_eq_true rfl, Nat.le_of_ble_eq_true rfl⟩) ⟨fun a U g mk q => by obtain ⟨q0, q1, qP, qK, qD⟩ := q; exact ⟨q0, q1, qP, va_K.moved (u := U) (U := U.calling g mk a) (Vm.Alike.refl U.vm) qK, qD⟩, va_recv hKc hPc (ci := 1) (q0 := 0) rfl rfl, fun U hU hW => ⟨rfl, by rw [hU], by rw [hU]; exact hPc, va_K.moved hW.alike hKc, hDc.weaken (fun _ _ _ _ => trivial)⟩⟩ rfl rfl hl.1 rfl (lv_room (Nat.le_of_ble_eq_true rfl)) d_Heap_alike_62 ⟨Nat.le_of_ble_eq_true rfl, Nat.le_of_ble_eq_true rfl⟩) hS (fun q _ h => hFc q h) hFc (fun r9 u9 t9 H1 locs ht hvm e9 hB hz1 hk1 hS => ?_)
              obtain ⟨hP1, hK1, hD1⟩ := hB
              rw [ht] at hP1
              obtain ⟨hP, hD⟩ := va_join (wr := []) (w1 := [(h0, .inr (1, [.ref e_lexicon, .int e_yes, .int e_no, .int e_errorTag, .int e_fixed, .ref e_cells, .ref e_spare, .int e_top, .int e_spareTop, .ref e_leftLists, .ref e_rightLists, .ref e_nextMembers])), (e_cells, .inl (cI, cl, .inl e_cells_v))]) hP hD [0, 1] [] rfl rfl (by decide) (by decide) hk1 hFc hP1 hD1
              subst e9
              clear hP1 hD1 hK1 hvm hz1 hk1 hFc hKc hDc hPc
              subst ht
              generalize t9.heap = H at hP hS ⊢
              have hP : va_P (dC, dI) classes [(h0, .inr (1, [.ref e_lexicon, .int e_yes, .int e_no, .int e_errorTag, .int e_fixed, .ref e_cells, .ref e_spare, .int e_top, .int e_spareTop, .ref e_leftLists, .ref e_rightLists, .ref e_nextMembers])), (e_cells, .inl (cI, cl, .inl e_cells_v))] H := hP
              have hD : va_D A [(h0, .inr (1, [.ref e_lexicon, .int e_yes, .int e_no, .int e_errorTag, .int e_fixed, .ref e_cells, .ref e_spare, .int e_top, .int e_spareTop, .ref e_leftLists, .ref e_rightLists, .ref e_nextMembers])), (e_cells, .inl (cI, cl, .inl e_cells_v))] := hD
              refine lv_icmp_ne (tgt := 72) hx hb d_Heap_alike_65 (by decide) (fun c_11 => ?_) (fun c_11 => ?_)
              · refine lv_iconst (v := 0) hx hb d_Heap_alike_72 (by decide) ?_
                have hP9 := hP.sub (ws' := [(h0, .inr (1, [.ref e_lexicon, .int e_yes, .int e_no, .int e_errorTag, .int e_fixed, .ref e_cells, .ref e_spare, .int e_top, .int e_spareTop, .ref e_leftLists, .ref e_rightLists, .ref e_nextMembers])), (e_cells, .inl (cI, cl, .inl e_cells_v))]) [0, 1] rfl
                have hD9 := hD.sub (ws' := [(h0, .inr (1, [.ref e_lexicon, .int e_yes, .int e_no, .int e_errorTag, .int e_fixed, .ref e_cells, .ref e_spare, .int e_top, .int e_spareTop, .ref e_leftLists, .ref e_rightLists, .ref e_nextMembers])), (e_cells, .inl (cI, cl, .inl e_cells_v))]) [0, 1] (by decide) rfl
                exact W.zret (v := 0) hx hb hr (by first | exact z01 (sw_01 _ _ _ _) | exact z01 (Or.inl rfl) | exact z01 (Or.inr rfl)) (fun t9 ht hW => ⟨⟨0, (), rfl, by unfold m_Heap_alike_r; simp only [if_neg c_1, if_neg c_2, if_pos c_7, if_neg c_8, if_neg c_9, if_pos c_10, if_neg c_11], by rw [ht]; exact hP9, va_K.moved hW.alike hK, hD9⟩, hS.F ht⟩) hS.2.2 d_Heap_alike_73
              · refine lv_iconst (v := 1) hx hb d_Heap_alike_68 (by decide) ?_
                refine lv_goto (tgt := 73) hx hb d_Heap_alike_69 (by decide) ?_
                have hP9 := hP.sub (ws' := [(h0, .inr (1, [.ref e_lexicon, .int e_yes, .int e_no, .int e_errorTag, .int e_fixed, .ref e_cells, .ref e_spare, .int e_top, .int e_spareTop, .ref e_leftLists, .ref e_rightLists, .ref e_nextMembers])), (e_cells, .inl (cI, cl, .inl e_cells_v))]) [0, 1] rfl
                have hD9 := hD.sub (ws' := [(h0, .inr (1, [.ref e_lexicon, .int e_yes, .int e_no, .int e_errorTag, .int e_fixed, .ref e_cells, .ref e_spare, .int e_top, .int e_spareTop, .ref e_leftLists, .ref e_rightLists, .ref e_nextMembers])), (e_cells, .inl (cI, cl, .inl e_cells_v))]) [0, 1] (by decide) rfl
                exact W.zret (v := 1) hx hb hr (by first | exact z01 (sw_01 _ _ _ _) | exact z01 (Or.inl rfl) | exact z01 (Or.inr rfl)) (fun t9 ht hW => ⟨⟨1, (), rfl, by unfold m_Heap_alike_r; simp only [if_neg c_1, if_neg c_2, if_pos c_7, if_neg c_8, if_neg c_9, if_pos c_10, if_pos c_11], by rw [ht]; exact hP9, va_K.moved hW.alike hK, hD9⟩, hS.F ht⟩) hS.2.2 d_Heap_alike_73
      · refine lv_aload_n hx hb d_Heap_alike_21 rfl (lv_at hl 0 rfl) ?_
        refine lv_iload_n hx hb d_Heap_alike_22 rfl (lv_at hl 1 rfl) ?_
        refine lv_iload_n hx hb d_Heap_alike_23 rfl (lv_at hl 2 rfl) ?_
        have hPc := hP.sub (ws' := [(h0, .inr (1, [.ref e_lexicon, .int e_yes, .int e_no, .int e_errorTag, .int e_fixed, .ref e_cells, .ref e_spare, .int e_top, .int e_spareTop, .ref e_leftLists, .ref e_rightLists, .ref e_nextMembers])), (e_cells, .inl (cI, cl, .inl e_cells_v))]) [0, 1] rfl
        have hDc := hD.sub (ws' := [(h0, .inr (1, [.ref e_lexicon, .int e_yes, .int e_no, .int e_errorTag, .int e_fixed, .ref e_cells, .ref e_spare, .int e_top, .int e_spareTop, .ref e_leftLists, .ref e_rightLists, .ref e_nextMembers])), (e_cells, .inl (cI, cl, .inl e_cells_v))]) [0, 1] (by decide) rfl
        have hKc := hK.sub (tys' := [(cI, .int)]) [0] rfl
        have hFc := va_free (wc := [(h0, .inr (1, [.ref e_lexicon, .int e_yes, .int e_no, .int e_errorTag, .int e_fixed, .ref e_cells, .ref e_spare, .int e_top, .int e_spareTop, .ref e_leftLists, .ref e_rightLists, .ref e_nextMembers])), (e_cells, .inl (cI, cl, .inl e_cells_v))]) hD hS hA [0, 1] rfl
        refine va_calli (va_runV (As := [.int a, .int b]) (rest := []) ⟨hx, hb, hml, hown, hts⟩ (c_Heap_sameWord l dC dI H.size h0 e_lexicon e_yes e_no e_errorTag e_fixed e_cells e_spare e_top e_spareTop e_leftLists e_rightLists e_nextMembers e_cells_v cI cl a b (by assumption)) (cwV 2 hts (tw_GV tw_cons cw_Heap_sameWord lk_Heap_139 in_Heap_sameWord sel_Heap_sameWord ini_Heap) rfl rfl rfl (by decide +kernel) ⟨Nat.le_of_ble_eq_true rfl, Nat.le_of_ble_eq_true rfl⟩) ⟨fun a U g mk q => by obtain ⟨q0, q1, qP, qK, qD⟩ := q; exact ⟨q0, q1, qP, va_K.moved (u := U) (U := U.calling g mk a) (Vm.Alike.refl U.vm) qK, qD⟩, va_recv hKc hPc (ci := 1) (q0 := 0) rfl rfl, fun U hU hW => ⟨rfl, by rw [hU], by rw [hU]; exact hPc, va_K.moved hW.alike hKc, hDc.weaken (fun _ _ _ _ => trivial)⟩⟩ rfl rfl hl.1 rfl (lv_room (Nat.le_of_ble_eq_true rfl)) d_Heap_alike_24 ⟨Nat.le_of_ble_eq_true rfl, Nat.le_of_ble_eq_true rfl⟩) hS (fun q _ h => hFc q h) hFc (fun r9 u9 t9 H1 locs ht hvm e9 hB hz1 hk1 hS => ?_)
        obtain ⟨hP1, hK1, hD1⟩ := hB
        rw [ht] at hP1
        obtain ⟨hP, hD⟩ := va_join (wr := []) (w1 := [(h0, .inr (1, [.ref e_lexicon, .int e_yes, .int e_no, .int e_errorTag, .int e_fixed, .ref e_cells, .ref e_spare, .int e_top, .int e_spareTop, .ref e_leftLists, .ref e_rightLists, .ref e_nextMembers])), (e_cells, .inl (cI, cl, .inl e_cells_v))]) hP hD [0, 1] [] rfl rfl (by decide) (by decide) hk1 hFc hP1 hD1
        subst e9
        clear hP1 hD1 hK1 hvm hz1 hk1 hFc hKc hDc hPc
        subst ht
        generalize t9.heap = H at hP hS ⊢
        have hP : va_P (dC, dI) classes [(h0, .inr (1, [.ref e_lexicon, .int e_yes, .int e_no, .int e_errorTag, .int e_fixed, .ref e_cells, .ref e_spare, .int e_top, .int e_spareTop, .ref e_leftLists, .ref e_rightLists, .ref e_nextMembers])), (e_cells, .inl (cI, cl, .inl e_cells_v))] H := hP
        have hD : va_D A [(h0, .inr (1, [.ref e_lexicon, .int e_yes, .int e_no, .int e_errorTag, .int e_fixed, .ref e_cells, .ref e_spare, .int e_top, .int e_spareTop, .ref e_leftLists, .ref e_rightLists, .ref e_nextMembers])), (e_cells, .inl (cI, cl, .inl e_cells_v))] := hD
        have hP9 := hP.sub (ws' := [(h0, .inr (1, [.ref e_lexicon, .int e_yes, .int e_no, .int e_errorTag, .int e_fixed, .ref e_cells, .ref e_spare, .int e_top, .int e_spareTop, .ref e_leftLists, .ref e_rightLists, .ref e_nextMembers])), (e_cells, .inl (cI, cl, .inl e_cells_v))]) [0, 1] rfl
        have hD9 := hD.sub (ws' := [(h0, .inr (1, [.ref e_lexicon, .int e_yes, .int e_no, .int e_errorTag, .int e_fixed, .ref e_cells, .ref e_spare, .int e_top, .int e_spareTop, .ref e_leftLists, .ref e_rightLists, .ref e_nextMembers])), (e_cells, .inl (cI, cl, .inl e_cells_v))]) [0, 1] (by decide) rfl
        exact W.zret (v := m_Heap_sameWord_r e_cells_v cl a b) hx hb hr (by first | exact z01 (sw_01 _ _ _ _) | exact z01 (Or.inl rfl) | exact z01 (Or.inr rfl)) (fun t9 ht hW => ⟨⟨m_Heap_sameWord_r e_cells_v cl a b, (), rfl, by unfold m_Heap_alike_r; simp only [if_neg c_1, if_neg c_2, if_neg c_7], by rw [ht]; exact hP9, va_K.moved hW.alike hK, hD9⟩, hS.F ht⟩) hS.2.2 d_Heap_alike_27
  · refine lv_iconst (v := 1) hx hb d_Heap_alike_5 (by decide) ?_
    have hP9 := hP.sub (ws' := [(h0, .inr (1, [.ref e_lexicon, .int e_yes, .int e_no, .int e_errorTag, .int e_fixed, .ref e_cells, .ref e_spare, .int e_top, .int e_spareTop, .ref e_leftLists, .ref e_rightLists, .ref e_nextMembers])), (e_cells, .inl (cI, cl, .inl e_cells_v))]) [0, 1] rfl
    have hD9 := hD.sub (ws' := [(h0, .inr (1, [.ref e_lexicon, .int e_yes, .int e_no, .int e_errorTag, .int e_fixed, .ref e_cells, .ref e_spare, .int e_top, .int e_spareTop, .ref e_leftLists, .ref e_rightLists, .ref e_nextMembers])), (e_cells, .inl (cI, cl, .inl e_cells_v))]) [0, 1] (by decide) rfl
    exact W.zret (v := 1) hx hb hr (by first | exact z01 (sw_01 _ _ _ _) | exact z01 (Or.inl rfl) | exact z01 (Or.inr rfl)) (fun t9 ht hW => ⟨⟨1, (), rfl, by unfold m_Heap_alike_r; simp only [if_pos c_1], by rw [ht]; exact hP9, va_K.moved hW.alike hK, hD9⟩, hS.F ht⟩) hS.2.2 d_Heap_alike_6
