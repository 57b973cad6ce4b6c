
def ibad_Model_place_r (tu : Int32) (a : Int32) : Int32 := if ((m_Model_isTurtle_r tu)) = ((0 : Int32)) then 0 else if a = ((0 : Int32)) then 0 else if a = ((1 : Int32)) then 0 else 0
def ibad_Model_place_w0_i (v_i : Nat → Int32) (tu : Int32) (a : Int32) : Nat → Int32 := if ((m_Model_isTurtle_r tu)) = ((0 : Int32)) then upd v_i 0 1 else if a = ((0 : Int32)) then upd v_i 0 1 else if a = ((1 : Int32)) then upd v_i 0 1 else upd v_i 0 1
set_option maxHeartbeats 4000000 in
set_option maxRecDepth 100000 in
/-- place, of none such -/
theorem c_Model_place_bad (l : Launch) (dC : Nat → ClassId) (dI : Nat → Nat → Nat) (sz : Nat) (h0 : Nat) (v_r : Nat → Nat) (v_i : Nat → Int32) (v_j : Nat → Int64) (cI : ClassId) (cJ : ClassId) (cB : ClassId) (tu : Int32) (a : Int32) (d : Int32) (hbad : m_Model_isTurtle_r tu = 0 ∨ (¬ a = 0 ∧ ¬ a = 1) ∨ (¬ d = 0 ∧ ¬ d = 1)) : Met l y_Model_place w_Model_place ({ frames := 1, cells := 0, slots := 0, locals := 21 }) (va_Pc [.ref h0, .int tu, .int a, .int d] (fun U => U.heap.size = sz ∧ va_P (dC, dI) classes [(h0, .inr (12, mo v_r v_i v_j))] U.heap ∧ va_K (dC, dI) classes [(cI, .int), (cJ, .long), (cB, .byte)] U ∧ va_D (fun _ => True) [(h0, .inr (12, mo v_r v_i v_j))])) (va_Qi (fun (r : Int32) (_ : Unit) => r = ibad_Model_place_r tu a) (fun (_ : Unit) t => va_P (dC, dI) classes [(h0, .inr (12, mo v_r (ibad_Model_place_w0_i v_i tu a) v_j))] t.heap ∧ va_K (dC, dI) classes [(cI, .int), (cJ, .long), (cB, .byte)] t ∧ va_D (va_A [(h0, .inr (12, mo v_r v_i v_j))] sz) [(h0, .inr (12, mo v_r (ibad_Model_place_w0_i v_i tu a) v_j))]) (va_A [(h0, .inr (12, mo v_r v_i v_j))] sz)) 0 0 (va_A [(h0, .inr (12, mo v_r v_i v_j))] sz) := by
  refine Met.ofW (cc := b_Model_place) (maxL := 4) (ret := (some .int)) (by decide) rfl ?_
  intro p e s m args below meth c s₁ B hml hv
  obtain ⟨rfl, hsz, hP, hK, hD0⟩ := hv
  have hx := B.exec
  have hb := B.bytes
  have hr := B.returns
  have hts := atoms_spec (ws := w_Model_place) B.pre
  have htt : ∀ w ∈ tw_T, w.before _ s = true := fun w h => hts w (List.mem_cons_of_mem _ h)
  have hown : s.vm.findClass R_Model = some m.cls := findClass_of_methodNamed B.named
  have hlocks := B.notSynchronized
  subst hsz
  have hD := hD0.self (sz := s.heap.size)
  generalize hAe : va_A [(h0, .inr (12, mo v_r v_i v_j))] s.heap.size = A at hD ⊢
  have hA : ∀ q : Nat, s.heap.size ≤ q → A q := fun q h => by rw [← hAe]; exact Or.inr h
  have hS : va_S A s.heap s.heap [] := va_S.rf
  have hP : va_P (dC, dI) classes [(h0, .inr (12, mo v_r v_i v_j))] s.heap := hP
  have hl := lv_entry ([.ref h0, .int tu, .int a, .int d]) (n := 4) (Nat.le_of_ble_eq_true rfl)
  rw [lg_entry_eq]
  generalize (lg_sl ([.ref h0, .int tu, .int a, .int d]) ++ List.replicate (4 - (lg_sl ([.ref h0, .int tu, .int a, .int d])).length) Slot.unset).toArray = ls at hl ⊢
  have hl : lv_has ls 4 [(0, .ref h0), (1, .int tu), (2, .int a), (3, .int d)] := hl
  refine lv_aload_n hx hb d_Model_place_0 rfl (lv_at hl 0 rfl) ?_
  refine lv_aload_n hx hb d_Model_place_1 rfl (lv_at hl 0 rfl) ?_
  refine lv_iload_n hx hb d_Model_place_2 rfl (lv_at hl 1 rfl) ?_
  have hPc := hP.sub (ws' := [(h0, .inr (12, mo v_r v_i v_j))]) [0] rfl
  have hDc := hD.sub (ws' := [(h0, .inr (12, mo v_r v_i v_j))]) [0] (by decide) rfl
  have hKc := hK.sub (tys' := [(cI, .int), (cJ, .long), (cB, .byte)]) [0, 1, 2] rfl
  have hFc := va_free (wc := [(h0, .inr (12, mo v_r v_i v_j))]) hD hS hA [0] rfl
  refine va_calli (va_runV (As := [.int tu]) (rest := [.ref h0]) ⟨hx, hb, hml, hown, hts⟩ (c_Model_isTurtle l dC dI s.heap.size h0 v_r v_i v_j cI cJ cB tu) (cwV 1 hts (tw_GV tw_cons cw_Model_isTurtle lk_Model_849 in_Model_isTurtle sel_Model_isTurtle ini_Model) rfl rfl rfl (by decide +kernel) ⟨Nat.le_of_ble_eq_true rfl, Nat.le_of_ble_eq_true rfl⟩) ⟨fun a U g mk q => by obtain ⟨q0, q1, qP, qK, qD⟩ := q; exact ⟨q0, q1, qP, va_K.moved (u := U) (U := U.calling g mk a) (Vm.Alike.refl U.vm) qK, qD⟩, va_recv hKc hPc (ci := 12) (q0 := 0) rfl rfl, fun U hU hW => ⟨rfl, by rw [hU], by rw [hU]; exact hPc, va_K.moved hW.alike hKc, hDc.weaken (fun _ _ _ _ => trivial)⟩⟩ rfl rfl hl.1 rfl (lv_room (Nat.le_of_ble_eq_true rfl)) d_Model_place_3 ⟨Nat.le_of_ble_eq_true rfl, Nat.le_of_ble_eq_true rfl⟩) hS (fun q _ h => hFc q h) hFc (fun r9 u9 t9 H1 locs ht hvm e9 hB hz1 hk1 hS => ?_)
  obtain ⟨hP1, hK1, hD1⟩ := hB
  rw [ht] at hP1
  obtain ⟨hP, hD⟩ := va_join (wr := []) (w1 := [(h0, .inr (12, mo v_r v_i v_j))]) hP hD [0] [] rfl rfl (by decide) (by decide) hk1 hFc hP1 hD1
  subst e9
  clear hP1 hD1 hK1 hvm hz1 hk1 hFc hKc hDc hPc
  subst ht
  generalize t9.heap = H at hP hS ⊢
  have hP : va_P (dC, dI) classes [(h0, .inr (12, mo v_r v_i v_j))] H := hP
  have hD : va_D A [(h0, .inr (12, mo v_r v_i v_j))] := hD
  refine lv_if_eq (tgt := 31) hx hb d_Model_place_6 (by decide) (fun c_1 => ?_) (fun c_1 => ?_)
  · refine lv_iconst (v := 1) hx hb d_Model_place_31 (by decide) ?_
    refine va_put (D := (dC, dI)) (ci := 12) (v := .int 1) (ty := .int) (C := R_Model) (T := F_Model) (N := 127) hx hb htt iw_Model t_Model t_Model_ok n_Model hown hK hP hD hS 0 rfl rfl 0 (by decide) (htt _ lk_Model_1) (fun _ h9 => h9) rfl (by decide +kernel) rfl rfl (Nat.le_of_ble_eq_true rfl) d_Model_place_32 (fun H locs hP hD hS => ?_)
    have hP : va_P (dC, dI) classes [(h0, .inr (12, mo v_r (upd v_i 0 1) v_j))] H := hP
    have hD : va_D A [(h0, .inr (12, mo v_r (upd v_i 0 1) v_j))] := hD
    refine lv_aload_n hx hb d_Model_place_35 rfl (lv_at hl 0 rfl) ?_
    refine va_get (D := (dC, dI)) (ci := 12) (v := .int 1) (C := R_Model) (T := F_Model) (N := 127) hx hb htt iw_Model hown hK hP 0 rfl rfl 0 (by decide) (htt _ lk_Model_1) (fun _ h9 => h9) rfl d_Model_place_36 ?_
    refine lv_iconst (v := 1) hx hb d_Model_place_39 (by decide) ?_
    refine lv_icmp_ne (tgt := 47) hx hb d_Model_place_40 (by decide) (fun c_2 => ?_) (fun c_2 => ?_)
    · exact absurd c_2 (by decide)
    · refine lv_iconst (v := 0) hx hb d_Model_place_43 (by decide) ?_
      refine lv_goto (tgt := 58) hx hb d_Model_place_44 (by decide) ?_
      have hP9 := hP.sub (ws' := [(h0, .inr (12, mo v_r (upd v_i 0 1) v_j))]) [0] rfl
      have hD9 := hD.sub (ws' := [(h0, .inr (12, mo v_r (upd v_i 0 1) v_j))]) [0] (by decide) rfl
      have eW : [(h0, .inr (12, mo v_r (upd v_i 0 1) v_j))] = ([(h0, .inr (12, mo v_r (ibad_Model_place_w0_i v_i tu a) v_j))] : va_W) := by unfold ibad_Model_place_w0_i; simp only [if_pos c_1]
      rw [eW] at hP9 hD9
      exact W.iret (v := 0) hx hb hr (fun t9 ht hW => ⟨⟨0, (), rfl, by unfold ibad_Model_place_r; simp only [if_pos c_1], by rw [ht]; exact hP9, va_K.moved hW.alike hK, hD9⟩, hS.F ht⟩) hS.2.2 d_Model_place_58
  · refine lv_iload_n hx hb d_Model_place_9 rfl (lv_at hl 2 rfl) ?_
    refine lv_if_eq (tgt := 18) hx hb d_Model_place_10 (by decide) (fun c_3 => ?_) (fun c_3 => ?_)
    · refine lv_iload_n hx hb d_Model_place_18 rfl (lv_at hl 3 rfl) ?_
      refine lv_if_eq (tgt := 27) hx hb d_Model_place_19 (by decide) (fun c_4 => ?_) (fun c_4 => ?_)
      · exact absurd c_4 (fun h9 => hbad.elim (fun h8 => c_1 h8) (fun h8 => h8.elim (fun h7 => absurd c_3 h7.1) (fun h6 => h6.1 h9)))
      · refine lv_iload_n hx hb d_Model_place_22 rfl (lv_at hl 3 rfl) ?_
        refine lv_iconst (v := 1) hx hb d_Model_place_23 (by decide) ?_
        refine lv_icmp_ne (tgt := 31) hx hb d_Model_place_24 (by decide) (fun c_5 => ?_) (fun c_5 => ?_)
        · refine lv_iconst (v := 1) hx hb d_Model_place_31 (by decide) ?_
          refine va_put (D := (dC, dI)) (ci := 12) (v := .int 1) (ty := .int) (C := R_Model) (T := F_Model) (N := 127) hx hb htt iw_Model t_Model t_Model_ok n_Model hown hK hP hD hS 0 rfl rfl 0 (by decide) (htt _ lk_Model_1) (fun _ h9 => h9) rfl (by decide +kernel) rfl rfl (Nat.le_of_ble_eq_true rfl) d_Model_place_32 (fun H locs hP hD hS => ?_)
          have hP : va_P (dC, dI) classes [(h0, .inr (12, mo v_r (upd v_i 0 1) v_j))] H := hP
          have hD : va_D A [(h0, .inr (12, mo v_r (upd v_i 0 1) v_j))] := hD
          refine lv_aload_n hx hb d_Model_place_35 rfl (lv_at hl 0 rfl) ?_
          refine va_get (D := (dC, dI)) (ci := 12) (v := .int 1) (C := R_Model) (T := F_Model) (N := 127) hx hb htt iw_Model hown hK hP 0 rfl rfl 0 (by decide) (htt _ lk_Model_1) (fun _ h9 => h9) rfl d_Model_place_36 ?_
          refine lv_iconst (v := 1) hx hb d_Model_place_39 (by decide) ?_
          refine lv_icmp_ne (tgt := 47) hx hb d_Model_place_40 (by decide) (fun c_6 => ?_) (fun c_6 => ?_)
          · exact absurd c_6 (by decide)
          · refine lv_iconst (v := 0) hx hb d_Model_place_43 (by decide) ?_
            refine lv_goto (tgt := 58) hx hb d_Model_place_44 (by decide) ?_
            have hP9 := hP.sub (ws' := [(h0, .inr (12, mo v_r (upd v_i 0 1) v_j))]) [0] rfl
            have hD9 := hD.sub (ws' := [(h0, .inr (12, mo v_r (upd v_i 0 1) v_j))]) [0] (by decide) rfl
            have eW : [(h0, .inr (12, mo v_r (upd v_i 0 1) v_j))] = ([(h0, .inr (12, mo v_r (ibad_Model_place_w0_i v_i tu a) v_j))] : va_W) := by unfold ibad_Model_place_w0_i; simp only [if_neg c_1, if_pos c_3]
            rw [eW] at hP9 hD9
            exact W.iret (v := 0) hx hb hr (fun t9 ht hW => ⟨⟨0, (), rfl, by unfold ibad_Model_place_r; simp only [if_neg c_1, if_pos c_3], by rw [ht]; exact hP9, va_K.moved hW.alike hK, hD9⟩, hS.F ht⟩) hS.2.2 d_Model_place_58
        · exact absurd c_5 (fun h9 => hbad.elim (fun h8 => c_1 h8) (fun h8 => h8.elim (fun h7 => absurd c_3 h7.1) (fun h6 => h6.2 h9)))
    · refine lv_iload_n hx hb d_Model_place_13 rfl (lv_at hl 2 rfl) ?_
      refine lv_iconst (v := 1) hx hb d_Model_place_14 (by decide) ?_
      refine lv_icmp_ne (tgt := 31) hx hb d_Model_place_15 (by decide) (fun c_7 => ?_) (fun c_7 => ?_)
      · refine lv_iconst (v := 1) hx hb d_Model_place_31 (by decide) ?_
        refine va_put (D := (dC, dI)) (ci := 12) (v := .int 1) (ty := .int) (C := R_Model) (T := F_Model) (N := 127) hx hb htt iw_Model t_Model t_Model_ok n_Model hown hK hP hD hS 0 rfl rfl 0 (by decide) (htt _ lk_Model_1) (fun _ h9 => h9) rfl (by decide +kernel) rfl rfl (Nat.le_of_ble_eq_true rfl) d_Model_place_32 (fun H locs hP hD hS => ?_)
        have hP : va_P (dC, dI) classes [(h0, .inr (12, mo v_r (upd v_i 0 1) v_j))] H := hP
        have hD : va_D A [(h0, .inr (12, mo v_r (upd v_i 0 1) v_j))] := hD
        refine lv_aload_n hx hb d_Model_place_35 rfl (lv_at hl 0 rfl) ?_
        refine va_get (D := (dC, dI)) (ci := 12) (v := .int 1) (C := R_Model) (T := F_Model) (N := 127) hx hb htt iw_Model hown hK hP 0 rfl rfl 0 (by decide) (htt _ lk_Model_1) (fun _ h9 => h9) rfl d_Model_place_36 ?_
        refine lv_iconst (v := 1) hx hb d_Model_place_39 (by decide) ?_
        refine lv_icmp_ne (tgt := 47) hx hb d_Model_place_40 (by decide) (fun c_8 => ?_) (fun c_8 => ?_)
        · exact absurd c_8 (by decide)
        · refine lv_iconst (v := 0) hx hb d_Model_place_43 (by decide) ?_
          refine lv_goto (tgt := 58) hx hb d_Model_place_44 (by decide) ?_
          have hP9 := hP.sub (ws' := [(h0, .inr (12, mo v_r (upd v_i 0 1) v_j))]) [0] rfl
          have hD9 := hD.sub (ws' := [(h0, .inr (12, mo v_r (upd v_i 0 1) v_j))]) [0] (by decide) rfl
          have eW : [(h0, .inr (12, mo v_r (upd v_i 0 1) v_j))] = ([(h0, .inr (12, mo v_r (ibad_Model_place_w0_i v_i tu a) v_j))] : va_W) := by unfold ibad_Model_place_w0_i; simp only [if_neg c_1, if_neg c_3, if_neg c_7]
          rw [eW] at hP9 hD9
          exact W.iret (v := 0) hx hb hr (fun t9 ht hW => ⟨⟨0, (), rfl, by unfold ibad_Model_place_r; simp only [if_neg c_1, if_neg c_3, if_neg c_7], by rw [ht]; exact hP9, va_K.moved hW.alike hK, hD9⟩, hS.F ht⟩) hS.2.2 d_Model_place_58
      · refine lv_iload_n hx hb d_Model_place_18 rfl (lv_at hl 3 rfl) ?_
        refine lv_if_eq (tgt := 27) hx hb d_Model_place_19 (by decide) (fun c_9 => ?_) (fun c_9 => ?_)
        · exact absurd c_9 (fun h9 => hbad.elim (fun h8 => c_1 h8) (fun h8 => h8.elim (fun h7 => absurd c_7 h7.2) (fun h6 => h6.1 h9)))
        · refine lv_iload_n hx hb d_Model_place_22 rfl (lv_at hl 3 rfl) ?_
          refine lv_iconst (v := 1) hx hb d_Model_place_23 (by decide) ?_
          refine lv_icmp_ne (tgt := 31) hx hb d_Model_place_24 (by decide) (fun c_10 => ?_) (fun c_10 => ?_)
          · refine lv_iconst (v := 1) hx hb d_Model_place_31 (by decide) ?_
            refine va_put (D := (dC, dI)) (ci := 12) (v := .int 1) (ty := .int) (C := R_Model) (T := F_Model) (N := 127) hx hb htt iw_Model t_Model t_Model_ok n_Model hown hK hP hD hS 0 rfl rfl 0 (by decide) (htt _ lk_Model_1) (fun _ h9 => h9) rfl (by decide +kernel) rfl rfl (Nat.le_of_ble_eq_true rfl) d_Model_place_32 (fun H locs hP hD hS => ?_)
            have hP : va_P (dC, dI) classes [(h0, .inr (12, mo v_r (upd v_i 0 1) v_j))] H := hP
            have hD : va_D A [(h0, .inr (12, mo v_r (upd v_i 0 1) v_j))] := hD
            refine lv_aload_n hx hb d_Model_place_35 rfl (lv_at hl 0 rfl) ?_
            refine va_get (D := (dC, dI)) (ci := 12) (v := .int 1) (C := R_Model) (T := F_Model) (N := 127) hx hb htt iw_Model hown hK hP 0 rfl rfl 0 (by decide) (htt _ lk_Model_1) (fun _ h9 => h9) rfl d_Model_place_36 ?_
            refine lv_iconst (v := 1) hx hb d_Model_place_39 (by decide) ?_
            refine lv_icmp_ne (tgt := 47) hx hb d_Model_place_40 (by decide) (fun c_11 => ?_) (fun c_11 => ?_)
            · exact absurd c_11 (by decide)
            · refine lv_iconst (v := 0) hx hb d_Model_place_43 (by decide) ?_
              refine lv_goto (tgt := 58) hx hb d_Model_place_44 (by decide) ?_
              have hP9 := hP.sub (ws' := [(h0, .inr (12, mo v_r (upd v_i 0 1) v_j))]) [0] rfl
              have hD9 := hD.sub (ws' := [(h0, .inr (12, mo v_r (upd v_i 0 1) v_j))]) [0] (by decide) rfl
              have eW : [(h0, .inr (12, mo v_r (upd v_i 0 1) v_j))] = ([(h0, .inr (12, mo v_r (ibad_Model_place_w0_i v_i tu a) v_j))] : va_W) := by unfold ibad_Model_place_w0_i; simp only [if_neg c_1, if_neg c_3, if_pos c_7]
              rw [eW] at hP9 hD9
              exact W.iret (v := 0) hx hb hr (fun t9 ht hW => ⟨⟨0, (), rfl, by unfold ibad_Model_place_r; simp only [if_neg c_1, if_neg c_3, if_pos c_7], by rw [ht]; exact hP9, va_K.moved hW.alike hK, hD9⟩, hS.F ht⟩) hS.2.2 d_Model_place_58
          · exact absurd c_10 (fun h9 => hbad.elim (fun h8 => c_1 h8) (fun h8 => h8.elim (fun h7 => absurd c_7 h7.2) (fun h6 => h6.2 h9)))

def ibad_Model_side_r (tu : Int32) : Int32 := if ((m_Model_isTurtle_r tu)) = ((0 : Int32)) then 0 else 0
def ibad_Model_side_w0_i (v_i : Nat → Int32) (tu : Int32) : Nat → Int32 := if ((m_Model_isTurtle_r tu)) = ((0 : Int32)) then upd v_i 0 1 else upd v_i 0 1
set_option maxHeartbeats 4000000 in
set_option maxRecDepth 100000 in
/-- side, of none such -/
theorem c_Model_side_bad (l : Launch) (dC : Nat → ClassId) (dI : Nat → Nat → Nat) (sz : Nat) (h0 : Nat) (v_r : Nat → Nat) (v_i : Nat → Int32) (v_j : Nat → Int64) (cI : ClassId) (cJ : ClassId) (cB : ClassId) (tu : Int32) (a : Int32) (d : Int32) (hbad : m_Model_isTurtle_r tu = 0 ∨ (¬ a = 0 ∧ ¬ a = 1)) : Met l y_Model_side w_Model_side ({ frames := 1, cells := 0, slots := 0, locals := 21 }) (va_Pc [.ref h0, .int tu, .int a, .int d] (fun U => U.heap.size = sz ∧ va_P (dC, dI) classes [(h0, .inr (12, mo v_r v_i v_j))] U.heap ∧ va_K (dC, dI) classes [(cI, .int), (cJ, .long), (cB, .byte)] U ∧ va_D (fun _ => True) [(h0, .inr (12, mo v_r v_i v_j))])) (va_Qi (fun (r : Int32) (_ : Unit) => r = ibad_Model_side_r tu) (fun (_ : Unit) t => va_P (dC, dI) classes [(h0, .inr (12, mo v_r (ibad_Model_side_w0_i v_i tu) v_j))] t.heap ∧ va_K (dC, dI) classes [(cI, .int), (cJ, .long), (cB, .byte)] t ∧ va_D (va_A [(h0, .inr (12, mo v_r v_i v_j))] sz) [(h0, .inr (12, mo v_r (ibad_Model_side_w0_i v_i tu) v_j))]) (va_A [(h0, .inr (12, mo v_r v_i v_j))] sz)) 0 0 (va_A [(h0, .inr (12, mo v_r v_i v_j))] sz) := by
  refine Met.ofW (cc := b_Model_side) (maxL := 4) (ret := (some .int)) (by decide) rfl ?_
  intro p e s m args below meth c s₁ B hml hv
  obtain ⟨rfl, hsz, hP, hK, hD0⟩ := hv
  have hx := B.exec
  have hb := B.bytes
  have hr := B.returns
  have hts := atoms_spec (ws := w_Model_side) B.pre
  have htt : ∀ w ∈ tw_T, w.before _ s = true := fun w h => hts w (List.mem_cons_of_mem _ h)
  have hown : s.vm.findClass R_Model = some m.cls := findClass_of_methodNamed B.named
  have hlocks := B.notSynchronized
  subst hsz
  have hD := hD0.self (sz := s.heap.size)
  generalize hAe : va_A [(h0, .inr (12, mo v_r v_i v_j))] s.heap.size = A at hD ⊢
  have hA : ∀ q : Nat, s.heap.size ≤ q → A q := fun q h => by rw [← hAe]; exact Or.inr h
  have hS : va_S A s.heap s.heap [] := va_S.rf
  have hP : va_P (dC, dI) classes [(h0, .inr (12, mo v_r v_i v_j))] s.heap := hP
  have hl := lv_entry ([.ref h0, .int tu, .int a, .int d]) (n := 4) (Nat.le_of_ble_eq_true rfl)
  rw [lg_entry_eq]
  generalize (lg_sl ([.ref h0, .int tu, .int a, .int d]) ++ List.replicate (4 - (lg_sl ([.ref h0, .int tu, .int a, .int d])).length) Slot.unset).toArray = ls at hl ⊢
  have hl : lv_has ls 4 [(0, .ref h0), (1, .int tu), (2, .int a), (3, .int d)] := hl
  refine lv_aload_n hx hb d_Model_side_0 rfl (lv_at hl 0 rfl) ?_
  refine lv_aload_n hx hb d_Model_side_1 rfl (lv_at hl 0 rfl) ?_
  refine lv_iload_n hx hb d_Model_side_2 rfl (lv_at hl 1 rfl) ?_
  have hPc := hP.sub (ws' := [(h0, .inr (12, mo v_r v_i v_j))]) [0] rfl
  have hDc := hD.sub (ws' := [(h0, .inr (12, mo v_r v_i v_j))]) [0] (by decide) rfl
  have hKc := hK.sub (tys' := [(cI, .int), (cJ, .long), (cB, .byte)]) [0, 1, 2] rfl
  have hFc := va_free (wc := [(h0, .inr (12, mo v_r v_i v_j))]) hD hS hA [0] rfl
  refine va_calli (va_runV (As := [.int tu]) (rest := [.ref h0]) ⟨hx, hb, hml, hown, hts⟩ (c_Model_isTurtle l dC dI s.heap.size h0 v_r v_i v_j cI cJ cB tu) (cwV 1 hts (tw_GV tw_cons cw_Model_isTurtle lk_Model_849 in_Model_isTurtle sel_Model_isTurtle ini_Model) rfl rfl rfl (by decide +kernel) ⟨Nat.le_of_ble_eq_true rfl, Nat.le_of_ble_eq_true rfl⟩) ⟨fun a U g mk q => by obtain ⟨q0, q1, qP, qK, qD⟩ := q; exact ⟨q0, q1, qP, va_K.moved (u := U) (U := U.calling g mk a) (Vm.Alike.refl U.vm) qK, qD⟩, va_recv hKc hPc (ci := 12) (q0 := 0) rfl rfl, fun U hU hW => ⟨rfl, by rw [hU], by rw [hU]; exact hPc, va_K.moved hW.alike hKc, hDc.weaken (fun _ _ _ _ => trivial)⟩⟩ rfl rfl hl.1 rfl (lv_room (Nat.le_of_ble_eq_true rfl)) d_Model_side_3 ⟨Nat.le_of_ble_eq_true rfl, Nat.le_of_ble_eq_true rfl⟩) hS (fun q _ h => hFc q h) hFc (fun r9 u9 t9 H1 locs ht hvm e9 hB hz1 hk1 hS => ?_)
  obtain ⟨hP1, hK1, hD1⟩ := hB
  rw [ht] at hP1
  obtain ⟨hP, hD⟩ := va_join (wr := []) (w1 := [(h0, .inr (12, mo v_r v_i v_j))]) hP hD [0] [] rfl rfl (by decide) (by decide) hk1 hFc hP1 hD1
  subst e9
  clear hP1 hD1 hK1 hvm hz1 hk1 hFc hKc hDc hPc
  subst ht
  generalize t9.heap = H at hP hS ⊢
  have hP : va_P (dC, dI) classes [(h0, .inr (12, mo v_r v_i v_j))] H := hP
  have hD : va_D A [(h0, .inr (12, mo v_r v_i v_j))] := hD
  refine lv_if_eq (tgt := 22) hx hb d_Model_side_6 (by decide) (fun c_1 => ?_) (fun c_1 => ?_)
  · refine lv_iconst (v := 1) hx hb d_Model_side_22 (by decide) ?_
    refine va_put (D := (dC, dI)) (ci := 12) (v := .int 1) (ty := .int) (C := R_Model) (T := F_Model) (N := 127) hx hb htt iw_Model t_Model t_Model_ok n_Model hown hK hP hD hS 0 rfl rfl 0 (by decide) (htt _ lk_Model_1) (fun _ h9 => h9) rfl (by decide +kernel) rfl rfl (Nat.le_of_ble_eq_true rfl) d_Model_side_23 (fun H locs hP hD hS => ?_)
    have hP : va_P (dC, dI) classes [(h0, .inr (12, mo v_r (upd v_i 0 1) v_j))] H := hP
    have hD : va_D A [(h0, .inr (12, mo v_r (upd v_i 0 1) v_j))] := hD
    refine lv_aload_n hx hb d_Model_side_26 rfl (lv_at hl 0 rfl) ?_
    refine va_get (D := (dC, dI)) (ci := 12) (v := .int 1) (C := R_Model) (T := F_Model) (N := 127) hx hb htt iw_Model hown hK hP 0 rfl rfl 0 (by decide) (htt _ lk_Model_1) (fun _ h9 => h9) rfl d_Model_side_27 ?_
    refine lv_iconst (v := 1) hx hb d_Model_side_30 (by decide) ?_
    refine lv_icmp_ne (tgt := 38) hx hb d_Model_side_31 (by decide) (fun c_2 => ?_) (fun c_2 => ?_)
    · exact absurd c_2 (by decide)
    · refine lv_iconst (v := 0) hx hb d_Model_side_34 (by decide) ?_
      refine lv_goto (tgt := 70) hx hb d_Model_side_35 (by decide) ?_
      have hP9 := hP.sub (ws' := [(h0, .inr (12, mo v_r (upd v_i 0 1) v_j))]) [0] rfl
      have hD9 := hD.sub (ws' := [(h0, .inr (12, mo v_r (upd v_i 0 1) v_j))]) [0] (by decide) rfl
      have eW : [(h0, .inr (12, mo v_r (upd v_i 0 1) v_j))] = ([(h0, .inr (12, mo v_r (ibad_Model_side_w0_i v_i tu) v_j))] : va_W) := by unfold ibad_Model_side_w0_i; simp only [if_pos c_1]
      rw [eW] at hP9 hD9
      exact W.iret (v := 0) hx hb hr (fun t9 ht hW => ⟨⟨0, (), rfl, by unfold ibad_Model_side_r; simp only [if_pos c_1], by rw [ht]; exact hP9, va_K.moved hW.alike hK, hD9⟩, hS.F ht⟩) hS.2.2 d_Model_side_70
  · refine lv_iload_n hx hb d_Model_side_9 rfl (lv_at hl 2 rfl) ?_
    refine lv_if_eq (tgt := 18) hx hb d_Model_side_10 (by decide) (fun c_3 => ?_) (fun c_3 => ?_)
    · exact absurd c_3 (fun h9 => hbad.elim (fun h8 => c_1 h8) (fun h8 => h8.1 h9))
    · refine lv_iload_n hx hb d_Model_side_13 rfl (lv_at hl 2 rfl) ?_
      refine lv_iconst (v := 1) hx hb d_Model_side_14 (by decide) ?_
      refine lv_icmp_ne (tgt := 22) hx hb d_Model_side_15 (by decide) (fun c_4 => ?_) (fun c_4 => ?_)
      · refine lv_iconst (v := 1) hx hb d_Model_side_22 (by decide) ?_
        refine va_put (D := (dC, dI)) (ci := 12) (v := .int 1) (ty := .int) (C := R_Model) (T := F_Model) (N := 127) hx hb htt iw_Model t_Model t_Model_ok n_Model hown hK hP hD hS 0 rfl rfl 0 (by decide) (htt _ lk_Model_1) (fun _ h9 => h9) rfl (by decide +kernel) rfl rfl (Nat.le_of_ble_eq_true rfl) d_Model_side_23 (fun H locs hP hD hS => ?_)
        have hP : va_P (dC, dI) classes [(h0, .inr (12, mo v_r (upd v_i 0 1) v_j))] H := hP
        have hD : va_D A [(h0, .inr (12, mo v_r (upd v_i 0 1) v_j))] := hD
        refine lv_aload_n hx hb d_Model_side_26 rfl (lv_at hl 0 rfl) ?_
        refine va_get (D := (dC, dI)) (ci := 12) (v := .int 1) (C := R_Model) (T := F_Model) (N := 127) hx hb htt iw_Model hown hK hP 0 rfl rfl 0 (by decide) (htt _ lk_Model_1) (fun _ h9 => h9) rfl d_Model_side_27 ?_
        refine lv_iconst (v := 1) hx hb d_Model_side_30 (by decide) ?_
        refine lv_icmp_ne (tgt := 38) hx hb d_Model_side_31 (by decide) (fun c_5 => ?_) (fun c_5 => ?_)
        · exact absurd c_5 (by decide)
        · refine lv_iconst (v := 0) hx hb d_Model_side_34 (by decide) ?_
          refine lv_goto (tgt := 70) hx hb d_Model_side_35 (by decide) ?_
          have hP9 := hP.sub (ws' := [(h0, .inr (12, mo v_r (upd v_i 0 1) v_j))]) [0] rfl
          have hD9 := hD.sub (ws' := [(h0, .inr (12, mo v_r (upd v_i 0 1) v_j))]) [0] (by decide) rfl
          have eW : [(h0, .inr (12, mo v_r (upd v_i 0 1) v_j))] = ([(h0, .inr (12, mo v_r (ibad_Model_side_w0_i v_i tu) v_j))] : va_W) := by unfold ibad_Model_side_w0_i; simp only [if_neg c_1]
          rw [eW] at hP9 hD9
          exact W.iret (v := 0) hx hb hr (fun t9 ht hW => ⟨⟨0, (), rfl, by unfold ibad_Model_side_r; simp only [if_neg c_1], by rw [ht]; exact hP9, va_K.moved hW.alike hK, hD9⟩, hS.F ht⟩) hS.2.2 d_Model_side_70
      · exact absurd c_4 (fun h9 => hbad.elim (fun h8 => c_1 h8) (fun h8 => h8.2 h9))
