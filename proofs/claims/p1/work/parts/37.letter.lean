theorem d_Heap_letter_0 : decode b_Heap_letter 0 = .ok (.iload_n 1, 1) := by decide +kernel
theorem d_Heap_letter_1 : decode b_Heap_letter 1 = .ok (.invokestatic 129, 3) := by decide +kernel
theorem d_Heap_letter_4 : decode b_Heap_letter 4 = .ok (.ifCond .eq 29, 3) := by decide +kernel
theorem d_Heap_letter_7 : decode b_Heap_letter 7 = .ok (.iload_n 2, 1) := by decide +kernel
theorem d_Heap_letter_8 : decode b_Heap_letter 8 = .ok (.ifCond .lt 25, 3) := by decide +kernel
theorem d_Heap_letter_11 : decode b_Heap_letter 11 = .ok (.iload_n 2, 1) := by decide +kernel
theorem d_Heap_letter_12 : decode b_Heap_letter 12 = .ok (.aload_n 0, 1) := by decide +kernel
theorem d_Heap_letter_13 : decode b_Heap_letter 13 = .ok (.iload_n 1, 1) := by decide +kernel
theorem d_Heap_letter_14 : decode b_Heap_letter 14 = .ok (.invokevirtual 119, 3) := by decide +kernel
theorem d_Heap_letter_17 : decode b_Heap_letter 17 = .ok (.if_icmp .ge 16, 3) := by decide +kernel
theorem d_Heap_letter_20 : decode b_Heap_letter 20 = .ok (.aload_n 0, 1) := by decide +kernel
theorem d_Heap_letter_21 : decode b_Heap_letter 21 = .ok (.getfield 11, 3) := by decide +kernel
theorem d_Heap_letter_24 : decode b_Heap_letter 24 = .ok (.iload_n 1, 1) := by decide +kernel
theorem d_Heap_letter_25 : decode b_Heap_letter 25 = .ok (.iconst 2, 1) := by decide +kernel
theorem d_Heap_letter_26 : decode b_Heap_letter 26 = .ok (.ishr, 1) := by decide +kernel
theorem d_Heap_letter_27 : decode b_Heap_letter 27 = .ok (.iload_n 2, 1) := by decide +kernel
theorem d_Heap_letter_28 : decode b_Heap_letter 28 = .ok (.iadd, 1) := by decide +kernel
theorem d_Heap_letter_29 : decode b_Heap_letter 29 = .ok (.iaload, 1) := by decide +kernel
theorem d_Heap_letter_30 : decode b_Heap_letter 30 = .ok (.goto 4, 3) := by decide +kernel
theorem d_Heap_letter_33 : decode b_Heap_letter 33 = .ok (.iconst (-1), 1) := by decide +kernel
theorem d_Heap_letter_34 : decode b_Heap_letter 34 = .ok (.ireturn, 1) := by decide +kernel
theorem sz_L {f : Nat → Int32} {cl : Nat} (v : Int32) (hcl : cl ≤ 340000) : ∀ (n : Nat) (i len : Int32), 0 < i.toInt → i.toInt ≤ cl → 0 ≤ len.toInt → len.toInt + (cl - i.toInt) ≤ 340000 → (m_Heap_size_L50_r f cl v n i len).toInt ≤ len.toInt + (cl - i.toInt) := by
  intro n
  induction n with
  | zero => intro i len h0 h1 h2 h3; simp only [m_Heap_size_L50_r, Int32.reduceToInt]; omega
  | succ n ih =>
    intro i len h0 h1 h2 h3
    simp only [m_Heap_size_L50_r]
    split
    · omega
    · rename_i q
      rw [Int32.le_iff_toInt_le, nI_toInt (show cl < 2 ^ 31 by omega)] at q
      split
      · omega
      · have e1 : (i + 1).toInt = i.toInt + 1 := up_step (by omega)
        have e2 : (len + 1).toInt = len.toInt + 1 := up_step (by omega)
        have := ih (i + 1) (len + 1) (by omega) (by omega) (by omega) (by omega)
        omega
theorem lt_in {f : Nat → Int32} {cl : Nat} {v k : Int32} (hcl : cl ≤ 340000) (hv : v &&& 3 = 3 → 0 < (v >>> (2 &&& 31)).toInt ∧ (v >>> (2 &&& 31)).toInt < cl) (h1 : ¬ hs_isWord v = 0) (h2 : ¬ k < 0) (h3 : ¬ m_Heap_size_r f cl v ≤ k) : vp_in (v >>> (2 &&& 31) + k) cl := by
  have hw : v &&& 3 = 3 := by
    unfold hs_isWord at h1
    by_cases a : v &&& 3 = 3
    · exact a
    · rw [if_neg a] at h1; exact absurd rfl h1
  obtain ⟨p1, p2⟩ := hv hw
  have key : (m_Heap_size_r f cl v).toInt ≤ 1 ∨ (m_Heap_size_r f cl v).toInt ≤ cl - (v >>> (2 &&& 31)).toInt := by
    unfold m_Heap_size_r
    split
    · exact Or.inl (by decide)
    · split
      · exact Or.inl (by decide)
      · split
        · split
          · rename_i q; rw [hw] at q; exact absurd q (by decide)
          · refine Or.inr ?_
            have := sz_L (f := f) v hcl (((cl : Int) - (v >>> (2 &&& 31)).toInt).toNat + 1) (v >>> (2 &&& 31)) 0 p1 (by omega) (by decide) (by simp only [Int32.reduceToInt]; omega)
            simp only [Int32.reduceToInt] at this
            omega
        · exact Or.inl (by decide)
  rw [Int32.le_iff_toInt_le] at h3
  simp only [Int32.lt_iff_toInt_lt, Int32.reduceToInt] at h2
  generalize v >>> (2 &&& 31) = q at p1 p2 key ⊢
  have e : (q + k).toInt = q.toInt + k.toInt := i32_add (by omega) (by omega)
  rw [vp_in_iff, e]
  omega

def m_Heap_letter_r (e_cells_v : Nat → Int32) (cl : Nat) (v : Int32) (k : Int32) : Int32 := if ((hs_isWord v)) = ((0 : Int32)) then (-1) else if k < ((0 : Int32)) then (-1) else if ((m_Heap_size_r e_cells_v cl v)) ≤ k then (-1) else e_cells_v ((v >>> (2 &&& 31)) + k).toNatClampNeg
set_option maxHeartbeats 4000000 in
set_option maxRecDepth 100000 in
/-- a LETTER of a WORD -/
theorem c_Heap_letter (l : Launch) (dC : Nat → ClassId) (dI : Nat → Nat → Nat) (sz : Nat) (h0 : Nat) (e_lexicon : Nat) (e_yes : Int32) (e_no : Int32) (e_errorTag : Int32) (e_fixed : Int32) (e_cells : Nat) (e_spare : Nat) (e_top : Int32) (e_spareTop : Int32) (e_leftLists : Nat) (e_rightLists : Nat) (e_nextMembers : Nat) (e_cells_v : Nat → Int32) (cI : ClassId) (cl : Nat) (v : Int32) (k : Int32) (hcl : cl ≤ 340000) (hv : v &&& 3 = 3 → 0 < (v >>> (2 &&& 31)).toInt ∧ (v >>> (2 &&& 31)).toInt < cl) : Met l y_Heap_letter w_Heap_letter ({ frames := 1, cells := 0, slots := 0, locals := 24 }) (va_Pc [.ref h0, .int v, .int k] (fun U => U.heap.size = sz ∧ va_P (dC, dI) classes [(h0, .inr (1, [.ref e_lexicon, .int e_yes, .int e_no, .int e_errorTag, .int e_fixed, .ref e_cells, .ref e_spare, .int e_top, .int e_spareTop, .ref e_leftLists, .ref e_rightLists, .ref e_nextMembers])), (e_cells, .inl (cI, cl, .inl e_cells_v))] U.heap ∧ va_K (dC, dI) classes [(cI, .int)] U ∧ va_D (fun _ => True) [(h0, .inr (1, [.ref e_lexicon, .int e_yes, .int e_no, .int e_errorTag, .int e_fixed, .ref e_cells, .ref e_spare, .int e_top, .int e_spareTop, .ref e_leftLists, .ref e_rightLists, .ref e_nextMembers])), (e_cells, .inl (cI, cl, .inl e_cells_v))])) (va_Qi (fun (r : Int32) (_ : Unit) => r = m_Heap_letter_r e_cells_v cl v k) (fun (_ : Unit) t => va_P (dC, dI) classes [(h0, .inr (1, [.ref e_lexicon, .int e_yes, .int e_no, .int e_errorTag, .int e_fixed, .ref e_cells, .ref e_spare, .int e_top, .int e_spareTop, .ref e_leftLists, .ref e_rightLists, .ref e_nextMembers])), (e_cells, .inl (cI, cl, .inl e_cells_v))] t.heap ∧ va_K (dC, dI) classes [(cI, .int)] t ∧ va_D (va_A [(h0, .inr (1, [.ref e_lexicon, .int e_yes, .int e_no, .int e_errorTag, .int e_fixed, .ref e_cells, .ref e_spare, .int e_top, .int e_spareTop, .ref e_leftLists, .ref e_rightLists, .ref e_nextMembers])), (e_cells, .inl (cI, cl, .inl e_cells_v))] sz) [(h0, .inr (1, [.ref e_lexicon, .int e_yes, .int e_no, .int e_errorTag, .int e_fixed, .ref e_cells, .ref e_spare, .int e_top, .int e_spareTop, .ref e_leftLists, .ref e_rightLists, .ref e_nextMembers])), (e_cells, .inl (cI, cl, .inl e_cells_v))]) (va_A [(h0, .inr (1, [.ref e_lexicon, .int e_yes, .int e_no, .int e_errorTag, .int e_fixed, .ref e_cells, .ref e_spare, .int e_top, .int e_spareTop, .ref e_leftLists, .ref e_rightLists, .ref e_nextMembers])), (e_cells, .inl (cI, cl, .inl e_cells_v))] sz)) 0 0 (va_A [(h0, .inr (1, [.ref e_lexicon, .int e_yes, .int e_no, .int e_errorTag, .int e_fixed, .ref e_cells, .ref e_spare, .int e_top, .int e_spareTop, .ref e_leftLists, .ref e_rightLists, .ref e_nextMembers])), (e_cells, .inl (cI, cl, .inl e_cells_v))] sz) := by
  refine Met.ofW (cc := b_Heap_letter) (maxL := 3) (ret := (some .int)) (by decide) rfl ?_
  intro p e s m args below meth c s₁ B hml hv
  obtain ⟨rfl, hsz, hP, hK, hD0⟩ := hv
  have hx := B.exec
  have hb := B.bytes
  have hr := B.returns
  have hts := atoms_spec (ws := w_Heap_letter) B.pre
  have htt : ∀ w ∈ tw_T, w.before _ s = true := fun w h => hts w (List.mem_cons_of_mem _ h)
  have hown : s.vm.findClass R_Heap = some m.cls := findClass_of_methodNamed B.named
  have hlocks := B.notSynchronized
  subst hsz
  have hD := hD0.self (sz := s.heap.size)
  generalize hAe : va_A [(h0, .inr (1, [.ref e_lexicon, .int e_yes, .int e_no, .int e_errorTag, .int e_fixed, .ref e_cells, .ref e_spare, .int e_top, .int e_spareTop, .ref e_leftLists, .ref e_rightLists, .ref e_nextMembers])), (e_cells, .inl (cI, cl, .inl e_cells_v))] s.heap.size = A at hD ⊢
  have hA : ∀ q : Nat, s.heap.size ≤ q → A q := fun q h => by rw [← hAe]; exact Or.inr h
  have hS : va_S A s.heap s.heap [] := va_S.rf
  have hP : va_P (dC, dI) classes [(h0, .inr (1, [.ref e_lexicon, .int e_yes, .int e_no, .int e_errorTag, .int e_fixed, .ref e_cells, .ref e_spare, .int e_top, .int e_spareTop, .ref e_leftLists, .ref e_rightLists, .ref e_nextMembers])), (e_cells, .inl (cI, cl, .inl e_cells_v))] s.heap := hP
  have hl := lv_entry ([.ref h0, .int v, .int k]) (n := 3) (Nat.le_of_ble_eq_true rfl)
  rw [lg_entry_eq]
  generalize (lg_sl ([.ref h0, .int v, .int k]) ++ List.replicate (3 - (lg_sl ([.ref h0, .int v, .int k])).length) Slot.unset).toArray = ls at hl ⊢
  have hl : lv_has ls 3 [(0, .ref h0), (1, .int v), (2, .int k)] := hl
  refine lv_iload_n hx hb d_Heap_letter_0 rfl (lv_at hl 1 rfl) ?_
  have hPc := hP.sub (ws' := []) [] rfl
  have hDc := hD.sub (ws' := []) [] (by decide) rfl
  have hKc := hK.sub (tys' := []) [] rfl
  have hFc := va_free (wc := []) hD hS hA [] rfl
  refine va_calli (va_runS (As := [.int v]) (rest := []) ⟨hx, hb, hml, hown, hts⟩ (c_Heap_isWord l dC dI s.heap.size v) (va_cwS 1 hts (tw_GS tw_cons cw_Heap_isWord lk_Heap_129 st_Heap_isWord ini_Heap) rfl rfl rfl (by decide +kernel) ⟨Nat.le_of_ble_eq_true rfl, Nat.le_of_ble_eq_true rfl⟩) ⟨fun a U g mk q => by obtain ⟨q0, q1, qP, qK, qD⟩ := q; exact ⟨q0, q1, qP, va_K.moved (u := U) (U := U.calling g mk a) (Vm.Alike.refl U.vm) qK, qD⟩, fun U hU hW => ⟨rfl, by rw [hU], by rw [hU]; exact hPc, va_K.moved hW.alike hKc, hDc.weaken (fun _ _ _ _ => trivial)⟩⟩ rfl rfl hl.1 rfl (lv_room (Nat.le_of_ble_eq_true rfl)) d_Heap_letter_1 ⟨Nat.le_of_ble_eq_true rfl, Nat.le_of_ble_eq_true rfl⟩) hS (fun q _ h => hFc q h) hFc (fun r9 u9 t9 H1 locs ht hvm e9 hB hz1 hk1 hS => ?_)
  obtain ⟨hP1, hK1, hD1⟩ := hB
  rw [ht] at hP1
  obtain ⟨hP, hD⟩ := va_join (wr := [(h0, .inr (1, [.ref e_lexicon, .int e_yes, .int e_no, .int e_errorTag, .int e_fixed, .ref e_cells, .ref e_spare, .int e_top, .int e_spareTop, .ref e_leftLists, .ref e_rightLists, .ref e_nextMembers])), (e_cells, .inl (cI, cl, .inl e_cells_v))]) (w1 := []) hP hD [] [0, 1] rfl rfl (by decide) (by decide) hk1 hFc hP1 hD1
  subst e9
  clear hP1 hD1 hK1 hvm hz1 hk1 hFc hKc hDc hPc
  subst ht
  generalize t9.heap = H at hP hS ⊢
  have hP : va_P (dC, dI) classes [(h0, .inr (1, [.ref e_lexicon, .int e_yes, .int e_no, .int e_errorTag, .int e_fixed, .ref e_cells, .ref e_spare, .int e_top, .int e_spareTop, .ref e_leftLists, .ref e_rightLists, .ref e_nextMembers])), (e_cells, .inl (cI, cl, .inl e_cells_v))] H := hP
  have hD : va_D A [(h0, .inr (1, [.ref e_lexicon, .int e_yes, .int e_no, .int e_errorTag, .int e_fixed, .ref e_cells, .ref e_spare, .int e_top, .int e_spareTop, .ref e_leftLists, .ref e_rightLists, .ref e_nextMembers])), (e_cells, .inl (cI, cl, .inl e_cells_v))] := hD
  refine lv_if_eq (tgt := 33) hx hb d_Heap_letter_4 (by decide) (fun c_1 => ?_) (fun c_1 => ?_)
  · refine lv_iconst (v := -1) hx hb d_Heap_letter_33 (by decide) ?_
    have hP9 := hP.sub (ws' := [(h0, .inr (1, [.ref e_lexicon, .int e_yes, .int e_no, .int e_errorTag, .int e_fixed, .ref e_cells, .ref e_spare, .int e_top, .int e_spareTop, .ref e_leftLists, .ref e_rightLists, .ref e_nextMembers])), (e_cells, .inl (cI, cl, .inl e_cells_v))]) [0, 1] rfl
    have hD9 := hD.sub (ws' := [(h0, .inr (1, [.ref e_lexicon, .int e_yes, .int e_no, .int e_errorTag, .int e_fixed, .ref e_cells, .ref e_spare, .int e_top, .int e_spareTop, .ref e_leftLists, .ref e_rightLists, .ref e_nextMembers])), (e_cells, .inl (cI, cl, .inl e_cells_v))]) [0, 1] (by decide) rfl
    exact W.iret (v := (-1)) hx hb hr (fun t9 ht hW => ⟨⟨(-1), (), rfl, by unfold m_Heap_letter_r; simp only [if_pos c_1], by rw [ht]; exact hP9, va_K.moved hW.alike hK, hD9⟩, hS.F ht⟩) hS.2.2 d_Heap_letter_34
  · refine lv_iload_n hx hb d_Heap_letter_7 rfl (lv_at hl 2 rfl) ?_
    refine lv_if_lt (tgt := 33) hx hb d_Heap_letter_8 (by decide) (fun c_2 => ?_) (fun c_2 => ?_)
    · refine lv_iconst (v := -1) hx hb d_Heap_letter_33 (by decide) ?_
      have hP9 := hP.sub (ws' := [(h0, .inr (1, [.ref e_lexicon, .int e_yes, .int e_no, .int e_errorTag, .int e_fixed, .ref e_cells, .ref e_spare, .int e_top, .int e_spareTop, .ref e_leftLists, .ref e_rightLists, .ref e_nextMembers])), (e_cells, .inl (cI, cl, .inl e_cells_v))]) [0, 1] rfl
      have hD9 := hD.sub (ws' := [(h0, .inr (1, [.ref e_lexicon, .int e_yes, .int e_no, .int e_errorTag, .int e_fixed, .ref e_cells, .ref e_spare, .int e_top, .int e_spareTop, .ref e_leftLists, .ref e_rightLists, .ref e_nextMembers])), (e_cells, .inl (cI, cl, .inl e_cells_v))]) [0, 1] (by decide) rfl
      exact W.iret (v := (-1)) hx hb hr (fun t9 ht hW => ⟨⟨(-1), (), rfl, by unfold m_Heap_letter_r; simp only [if_neg c_1, if_pos c_2], by rw [ht]; exact hP9, va_K.moved hW.alike hK, hD9⟩, hS.F ht⟩) hS.2.2 d_Heap_letter_34
    · refine lv_iload_n hx hb d_Heap_letter_11 rfl (lv_at hl 2 rfl) ?_
      refine lv_aload_n hx hb d_Heap_letter_12 rfl (lv_at hl 0 rfl) ?_
      refine lv_iload_n hx hb d_Heap_letter_13 rfl (lv_at hl 1 rfl) ?_
      have hPc := hP.sub (ws' := [(h0, .inr (1, [.ref e_lexicon, .int e_yes, .int e_no, .int e_errorTag, .int e_fixed, .ref e_cells, .ref e_spare, .int e_top, .int e_spareTop, .ref e_leftLists, .ref e_rightLists, .ref e_nextMembers])), (e_cells, .inl (cI, cl, .inl e_cells_v))]) [0, 1] rfl
      have hDc := hD.sub (ws' := [(h0, .inr (1, [.ref e_lexicon, .int e_yes, .int e_no, .int e_errorTag, .int e_fixed, .ref e_cells, .ref e_spare, .int e_top, .int e_spareTop, .ref e_leftLists, .ref e_rightLists, .ref e_nextMembers])), (e_cells, .inl (cI, cl, .inl e_cells_v))]) [0, 1] (by decide) rfl
      have hKc := hK.sub (tys' := [(cI, .int)]) [0] rfl
      have hFc := va_free (wc := [(h0, .inr (1, [.ref e_lexicon, .int e_yes, .int e_no, .int e_errorTag, .int e_fixed, .ref e_cells, .ref e_spare, .int e_top, .int e_spareTop, .ref e_leftLists, .ref e_rightLists, .ref e_nextMembers])), (e_cells, .inl (cI, cl, .inl e_cells_v))]) hD hS hA [0, 1] rfl
      refine va_calli (va_runV (As := [.int v]) (rest := [.int k]) ⟨hx, hb, hml, hown, hts⟩ (c_Heap_size l dC dI H.size h0 e_lexicon e_yes e_no e_errorTag e_fixed e_cells e_spare e_top e_spareTop e_leftLists e_rightLists e_nextMembers e_cells_v cI cl v (by assumption)) (cwV 1 hts (tw_GV tw_cons cw_Heap_size lk_Heap_119 in_Heap_size sel_Heap_size ini_Heap) rfl rfl rfl (by decide +kernel) ⟨Nat.le_of_ble_eq_true rfl, Nat.le_of_ble_eq_true rfl⟩) ⟨fun a U g mk q => by obtain ⟨q0, q1, qP, qK, qD⟩ := q; exact ⟨q0, q1, qP, va_K.moved (u := U) (U := U.calling g mk a) (Vm.Alike.refl U.vm) qK, qD⟩, va_recv hKc hPc (ci := 1) (q0 := 0) rfl rfl, fun U hU hW => ⟨rfl, by rw [hU], by rw [hU]; exact hPc, va_K.moved hW.alike hKc, hDc.weaken (fun _ _ _ _ => trivial)⟩⟩ rfl rfl hl.1 rfl (lv_room (Nat.le_of_ble_eq_true rfl)) d_Heap_letter_14 ⟨Nat.le_of_ble_eq_true rfl, Nat.le_of_ble_eq_true rfl⟩) hS (fun q _ h => hFc q h) hFc (fun r9 u9 t9 H1 locs ht hvm e9 hB hz1 hk1 hS => ?_)
      obtain ⟨hP1, hK1, hD1⟩ := hB
      rw [ht] at hP1
      obtain ⟨hP, hD⟩ := va_join (wr := []) (w1 := [(h0, .inr (1, [.ref e_lexicon, .int e_yes, .int e_no, .int e_errorTag, .int e_fixed, .ref e_cells, .ref e_spare, .int e_top, .int e_spareTop, .ref e_leftLists, .ref e_rightLists, .ref e_nextMembers])), (e_cells, .inl (cI, cl, .inl e_cells_v))]) hP hD [0, 1] [] rfl rfl (by decide) (by decide) hk1 hFc hP1 hD1
      subst e9
      clear hP1 hD1 hK1 hvm hz1 hk1 hFc hKc hDc hPc
      subst ht
      generalize t9.heap = H at hP hS ⊢
      have hP : va_P (dC, dI) classes [(h0, .inr (1, [.ref e_lexicon, .int e_yes, .int e_no, .int e_errorTag, .int e_fixed, .ref e_cells, .ref e_spare, .int e_top, .int e_spareTop, .ref e_leftLists, .ref e_rightLists, .ref e_nextMembers])), (e_cells, .inl (cI, cl, .inl e_cells_v))] H := hP
      have hD : va_D A [(h0, .inr (1, [.ref e_lexicon, .int e_yes, .int e_no, .int e_errorTag, .int e_fixed, .ref e_cells, .ref e_spare, .int e_top, .int e_spareTop, .ref e_leftLists, .ref e_rightLists, .ref e_nextMembers])), (e_cells, .inl (cI, cl, .inl e_cells_v))] := hD
      refine lv_icmp_ge (tgt := 33) hx hb d_Heap_letter_17 (by decide) (fun c_3 => ?_) (fun c_3 => ?_)
      · refine lv_iconst (v := -1) hx hb d_Heap_letter_33 (by decide) ?_
        have hP9 := hP.sub (ws' := [(h0, .inr (1, [.ref e_lexicon, .int e_yes, .int e_no, .int e_errorTag, .int e_fixed, .ref e_cells, .ref e_spare, .int e_top, .int e_spareTop, .ref e_leftLists, .ref e_rightLists, .ref e_nextMembers])), (e_cells, .inl (cI, cl, .inl e_cells_v))]) [0, 1] rfl
        have hD9 := hD.sub (ws' := [(h0, .inr (1, [.ref e_lexicon, .int e_yes, .int e_no, .int e_errorTag, .int e_fixed, .ref e_cells, .ref e_spare, .int e_top, .int e_spareTop, .ref e_leftLists, .ref e_rightLists, .ref e_nextMembers])), (e_cells, .inl (cI, cl, .inl e_cells_v))]) [0, 1] (by decide) rfl
        exact W.iret (v := (-1)) hx hb hr (fun t9 ht hW => ⟨⟨(-1), (), rfl, by unfold m_Heap_letter_r; simp only [if_neg c_1, if_neg c_2, if_pos c_3], by rw [ht]; exact hP9, va_K.moved hW.alike hK, hD9⟩, hS.F ht⟩) hS.2.2 d_Heap_letter_34
      · refine lv_aload_n hx hb d_Heap_letter_20 rfl (lv_at hl 0 rfl) ?_
        refine va_get (D := (dC, dI)) (ci := 1) (v := .ref e_cells) (C := R_Heap) (T := F_Heap) (N := 12) hx hb htt iw_Heap hown hK hP 0 rfl rfl 5 (by decide) (htt _ lk_Heap_11) (fun _ h9 => h9) rfl d_Heap_letter_21 ?_
        refine lv_iload_n hx hb d_Heap_letter_24 rfl (lv_at hl 1 rfl) ?_
        refine lv_iconst (v := 2) hx hb d_Heap_letter_25 (by decide) ?_
        refine lv_ishr hx hb d_Heap_letter_26 ?_
        refine lv_iload_n hx hb d_Heap_letter_27 rfl (lv_at hl 2 rfl) ?_
        refine lv_iadd hx hb d_Heap_letter_28 ?_
        have h_4 : vp_in ((v >>> (2 &&& 31)) + k) cl := lt_in hcl hv c_1 c_2 c_3
        refine va_iald hx hb hK hP 1 0 rfl rfl h_4 d_Heap_letter_29 ?_
        refine lv_goto (tgt := 34) hx hb d_Heap_letter_30 (by decide) ?_
        have hP9 := hP.sub (ws' := [(h0, .inr (1, [.ref e_lexicon, .int e_yes, .int e_no, .int e_errorTag, .int e_fixed, .ref e_cells, .ref e_spare, .int e_top, .int e_spareTop, .ref e_leftLists, .ref e_rightLists, .ref e_nextMembers])), (e_cells, .inl (cI, cl, .inl e_cells_v))]) [0, 1] rfl
        have hD9 := hD.sub (ws' := [(h0, .inr (1, [.ref e_lexicon, .int e_yes, .int e_no, .int e_errorTag, .int e_fixed, .ref e_cells, .ref e_spare, .int e_top, .int e_spareTop, .ref e_leftLists, .ref e_rightLists, .ref e_nextMembers])), (e_cells, .inl (cI, cl, .inl e_cells_v))]) [0, 1] (by decide) rfl
        exact W.iret (v := e_cells_v ((v >>> (2 &&& 31)) + k).toNatClampNeg) hx hb hr (fun t9 ht hW => ⟨⟨e_cells_v ((v >>> (2 &&& 31)) + k).toNatClampNeg, (), rfl, by unfold m_Heap_letter_r; simp only [if_neg c_1, if_neg c_2, if_neg c_3], by rw [ht]; exact hP9, va_K.moved hW.alike hK, hD9⟩, hS.F ht⟩) hS.2.2 d_Heap_letter_34
