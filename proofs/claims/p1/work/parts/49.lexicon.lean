theorem d_Lexicon_init_0 : decode b_Lexicon_init 0 = .ok (.aload_n 0, 1) := by decide +kernel
theorem d_Lexicon_init_1 : decode b_Lexicon_init 1 = .ok (.invokespecial 3, 3) := by decide +kernel
theorem d_Lexicon_init_4 : decode b_Lexicon_init 4 = .ok (.aload_n 0, 1) := by decide +kernel
theorem d_Lexicon_init_5 : decode b_Lexicon_init 5 = .ok (.sipush 600, 3) := by decide +kernel
theorem d_Lexicon_init_8 : decode b_Lexicon_init 8 = .ok (.newarray .int, 2) := by decide +kernel
theorem d_Lexicon_init_10 : decode b_Lexicon_init 10 = .ok (.putfield 11, 3) := by decide +kernel
theorem d_Lexicon_init_13 : decode b_Lexicon_init 13 = .ok (.aload_n 0, 1) := by decide +kernel
theorem d_Lexicon_init_14 : decode b_Lexicon_init 14 = .ok (.bipush 86, 2) := by decide +kernel
theorem d_Lexicon_init_16 : decode b_Lexicon_init 16 = .ok (.newarray .int, 2) := by decide +kernel
theorem d_Lexicon_init_18 : decode b_Lexicon_init 18 = .ok (.putfield 15, 3) := by decide +kernel
theorem d_Lexicon_init_21 : decode b_Lexicon_init 21 = .ok (.aload_n 0, 1) := by decide +kernel
theorem d_Lexicon_init_22 : decode b_Lexicon_init 22 = .ok (.bipush 86, 2) := by decide +kernel
theorem d_Lexicon_init_24 : decode b_Lexicon_init 24 = .ok (.newarray .int, 2) := by decide +kernel
theorem d_Lexicon_init_26 : decode b_Lexicon_init 26 = .ok (.putfield 18, 3) := by decide +kernel
theorem d_Lexicon_init_29 : decode b_Lexicon_init 29 = .ok (.aload_n 0, 1) := by decide +kernel
theorem d_Lexicon_init_30 : decode b_Lexicon_init 30 = .ok (.sipush 258, 3) := by decide +kernel
theorem d_Lexicon_init_33 : decode b_Lexicon_init 33 = .ok (.newarray .int, 2) := by decide +kernel
theorem d_Lexicon_init_35 : decode b_Lexicon_init 35 = .ok (.putfield 21, 3) := by decide +kernel
theorem d_Lexicon_init_38 : decode b_Lexicon_init 38 = .ok (.aload_n 0, 1) := by decide +kernel
theorem d_Lexicon_init_39 : decode b_Lexicon_init 39 = .ok (.sipush 256, 3) := by decide +kernel
theorem d_Lexicon_init_42 : decode b_Lexicon_init 42 = .ok (.newarray .int, 2) := by decide +kernel
theorem d_Lexicon_init_44 : decode b_Lexicon_init 44 = .ok (.putfield 24, 3) := by decide +kernel
theorem d_Lexicon_init_47 : decode b_Lexicon_init 47 = .ok (.aload_n 0, 1) := by decide +kernel
theorem d_Lexicon_init_48 : decode b_Lexicon_init 48 = .ok (.ldc 27, 2) := by decide +kernel
theorem d_Lexicon_init_50 : decode b_Lexicon_init 50 = .ok (.invokevirtual 29, 3) := by decide +kernel
theorem d_Lexicon_init_53 : decode b_Lexicon_init 53 = .ok (.aload_n 0, 1) := by decide +kernel
theorem d_Lexicon_init_54 : decode b_Lexicon_init 54 = .ok (.ldc 33, 2) := by decide +kernel
theorem d_Lexicon_init_56 : decode b_Lexicon_init 56 = .ok (.invokevirtual 29, 3) := by decide +kernel
theorem d_Lexicon_init_59 : decode b_Lexicon_init 59 = .ok (.aload_n 0, 1) := by decide +kernel
theorem d_Lexicon_init_60 : decode b_Lexicon_init 60 = .ok (.ldc 35, 2) := by decide +kernel
theorem d_Lexicon_init_62 : decode b_Lexicon_init 62 = .ok (.invokevirtual 29, 3) := by decide +kernel
theorem d_Lexicon_init_65 : decode b_Lexicon_init 65 = .ok (.aload_n 0, 1) := by decide +kernel
theorem d_Lexicon_init_66 : decode b_Lexicon_init 66 = .ok (.ldc 37, 2) := by decide +kernel
theorem d_Lexicon_init_68 : decode b_Lexicon_init 68 = .ok (.invokevirtual 29, 3) := by decide +kernel
theorem d_Lexicon_init_71 : decode b_Lexicon_init 71 = .ok (.aload_n 0, 1) := by decide +kernel
theorem d_Lexicon_init_72 : decode b_Lexicon_init 72 = .ok (.ldc 39, 2) := by decide +kernel
theorem d_Lexicon_init_74 : decode b_Lexicon_init 74 = .ok (.invokevirtual 29, 3) := by decide +kernel
theorem d_Lexicon_init_77 : decode b_Lexicon_init 77 = .ok (.aload_n 0, 1) := by decide +kernel
theorem d_Lexicon_init_78 : decode b_Lexicon_init 78 = .ok (.ldc 41, 2) := by decide +kernel
theorem d_Lexicon_init_80 : decode b_Lexicon_init 80 = .ok (.invokevirtual 29, 3) := by decide +kernel
theorem d_Lexicon_init_83 : decode b_Lexicon_init 83 = .ok (.return_, 1) := by decide +kernel
theorem lk_Lexicon_3 : Cond.methodLink "TurtleWorld$Lexicon" 3 ⟨"java/lang/Object", "<init>", "()V"⟩ ∈ tw_T := tw_i1 41 (by decide +kernel) (by decide +kernel)
theorem lk_Lexicon_29 : Cond.methodLink "TurtleWorld$Lexicon" 29 ⟨"TurtleWorld$Lexicon", "load", "(Ljava/lang/String;)V"⟩ ∈ tw_T := tw_i1 43 (by decide +kernel) (by decide +kernel)
theorem in_Lexicon_load : Cond.instanceMethod ⟨"TurtleWorld$Lexicon", "load", "(Ljava/lang/String;)V"⟩ ∈ tw_T := tw_i1 45 (by decide +kernel) (by decide +kernel)
theorem sel_Lexicon_load : Cond.selects "TurtleWorld$Lexicon" ⟨"TurtleWorld$Lexicon", "load", "(Ljava/lang/String;)V"⟩ ⟨"TurtleWorld$Lexicon", "load", "(Ljava/lang/String;)V"⟩ ∈ tw_T := tw_inS 0 (by decide +kernel) (by decide +kernel)
def lx1_words : Int32 := m_Lexicon_load_w0_5 0 0 (fun _ => 0) (fun _ => 0) (fun _ => 0) (fun _ => 0) (fun _ => 0) 106 (tw_bt 3)
def lx1_used : Int32 := m_Lexicon_load_w0_6 0 0 (fun _ => 0) (fun _ => 0) (fun _ => 0) (fun _ => 0) (fun _ => 0) 106 (tw_bt 3)
def lx1_letters : Nat → Int32 := m_Lexicon_load_w1 0 0 (fun _ => 0) (fun _ => 0) (fun _ => 0) (fun _ => 0) (fun _ => 0) 106 (tw_bt 3)
def lx1_starts : Nat → Int32 := m_Lexicon_load_w2 0 0 (fun _ => 0) (fun _ => 0) (fun _ => 0) (fun _ => 0) (fun _ => 0) 106 (tw_bt 3)
def lx1_arities : Nat → Int32 := m_Lexicon_load_w3 0 0 (fun _ => 0) (fun _ => 0) (fun _ => 0) (fun _ => 0) (fun _ => 0) 106 (tw_bt 3)
def lx1_kinds : Nat → Int32 := m_Lexicon_load_w4 0 0 (fun _ => 0) (fun _ => 0) (fun _ => 0) (fun _ => 0) (fun _ => 0) 106 (tw_bt 3)
def lx1_slots : Nat → Int32 := m_Lexicon_load_w5 0 0 (fun _ => 0) (fun _ => 0) (fun _ => 0) (fun _ => 0) (fun _ => 0) 106 (tw_bt 3)
def lx2_words : Int32 := m_Lexicon_load_w0_5 lx1_words lx1_used lx1_letters lx1_starts lx1_arities lx1_kinds lx1_slots 113 (tw_bt 4)
def lx2_used : Int32 := m_Lexicon_load_w0_6 lx1_words lx1_used lx1_letters lx1_starts lx1_arities lx1_kinds lx1_slots 113 (tw_bt 4)
def lx2_letters : Nat → Int32 := m_Lexicon_load_w1 lx1_words lx1_used lx1_letters lx1_starts lx1_arities lx1_kinds lx1_slots 113 (tw_bt 4)
def lx2_starts : Nat → Int32 := m_Lexicon_load_w2 lx1_words lx1_used lx1_letters lx1_starts lx1_arities lx1_kinds lx1_slots 113 (tw_bt 4)
def lx2_arities : Nat → Int32 := m_Lexicon_load_w3 lx1_words lx1_used lx1_letters lx1_starts lx1_arities lx1_kinds lx1_slots 113 (tw_bt 4)
def lx2_kinds : Nat → Int32 := m_Lexicon_load_w4 lx1_words lx1_used lx1_letters lx1_starts lx1_arities lx1_kinds lx1_slots 113 (tw_bt 4)
def lx2_slots : Nat → Int32 := m_Lexicon_load_w5 lx1_words lx1_used lx1_letters lx1_starts lx1_arities lx1_kinds lx1_slots 113 (tw_bt 4)
def lx3_words : Int32 := m_Lexicon_load_w0_5 lx2_words lx2_used lx2_letters lx2_starts lx2_arities lx2_kinds lx2_slots 161 (tw_bt 5)
def lx3_used : Int32 := m_Lexicon_load_w0_6 lx2_words lx2_used lx2_letters lx2_starts lx2_arities lx2_kinds lx2_slots 161 (tw_bt 5)
def lx3_letters : Nat → Int32 := m_Lexicon_load_w1 lx2_words lx2_used lx2_letters lx2_starts lx2_arities lx2_kinds lx2_slots 161 (tw_bt 5)
def lx3_starts : Nat → Int32 := m_Lexicon_load_w2 lx2_words lx2_used lx2_letters lx2_starts lx2_arities lx2_kinds lx2_slots 161 (tw_bt 5)
def lx3_arities : Nat → Int32 := m_Lexicon_load_w3 lx2_words lx2_used lx2_letters lx2_starts lx2_arities lx2_kinds lx2_slots 161 (tw_bt 5)
def lx3_kinds : Nat → Int32 := m_Lexicon_load_w4 lx2_words lx2_used lx2_letters lx2_starts lx2_arities lx2_kinds lx2_slots 161 (tw_bt 5)
def lx3_slots : Nat → Int32 := m_Lexicon_load_w5 lx2_words lx2_used lx2_letters lx2_starts lx2_arities lx2_kinds lx2_slots 161 (tw_bt 5)
def lx4_words : Int32 := m_Lexicon_load_w0_5 lx3_words lx3_used lx3_letters lx3_starts lx3_arities lx3_kinds lx3_slots 78 (tw_bt 6)
def lx4_used : Int32 := m_Lexicon_load_w0_6 lx3_words lx3_used lx3_letters lx3_starts lx3_arities lx3_kinds lx3_slots 78 (tw_bt 6)
def lx4_letters : Nat → Int32 := m_Lexicon_load_w1 lx3_words lx3_used lx3_letters lx3_starts lx3_arities lx3_kinds lx3_slots 78 (tw_bt 6)
def lx4_starts : Nat → Int32 := m_Lexicon_load_w2 lx3_words lx3_used lx3_letters lx3_starts lx3_arities lx3_kinds lx3_slots 78 (tw_bt 6)
def lx4_arities : Nat → Int32 := m_Lexicon_load_w3 lx3_words lx3_used lx3_letters lx3_starts lx3_arities lx3_kinds lx3_slots 78 (tw_bt 6)
def lx4_kinds : Nat → Int32 := m_Lexicon_load_w4 lx3_words lx3_used lx3_letters lx3_starts lx3_arities lx3_kinds lx3_slots 78 (tw_bt 6)
def lx4_slots : Nat → Int32 := m_Lexicon_load_w5 lx3_words lx3_used lx3_letters lx3_starts lx3_arities lx3_kinds lx3_slots 78 (tw_bt 6)
def lx5_words : Int32 := m_Lexicon_load_w0_5 lx4_words lx4_used lx4_letters lx4_starts lx4_arities lx4_kinds lx4_slots 114 (tw_bt 7)
def lx5_used : Int32 := m_Lexicon_load_w0_6 lx4_words lx4_used lx4_letters lx4_starts lx4_arities lx4_kinds lx4_slots 114 (tw_bt 7)
def lx5_letters : Nat → Int32 := m_Lexicon_load_w1 lx4_words lx4_used lx4_letters lx4_starts lx4_arities lx4_kinds lx4_slots 114 (tw_bt 7)
def lx5_starts : Nat → Int32 := m_Lexicon_load_w2 lx4_words lx4_used lx4_letters lx4_starts lx4_arities lx4_kinds lx4_slots 114 (tw_bt 7)
def lx5_arities : Nat → Int32 := m_Lexicon_load_w3 lx4_words lx4_used lx4_letters lx4_starts lx4_arities lx4_kinds lx4_slots 114 (tw_bt 7)
def lx5_kinds : Nat → Int32 := m_Lexicon_load_w4 lx4_words lx4_used lx4_letters lx4_starts lx4_arities lx4_kinds lx4_slots 114 (tw_bt 7)
def lx5_slots : Nat → Int32 := m_Lexicon_load_w5 lx4_words lx4_used lx4_letters lx4_starts lx4_arities lx4_kinds lx4_slots 114 (tw_bt 7)
def lx6_words : Int32 := m_Lexicon_load_w0_5 lx5_words lx5_used lx5_letters lx5_starts lx5_arities lx5_kinds lx5_slots 24 (tw_bt 8)
def lx6_used : Int32 := m_Lexicon_load_w0_6 lx5_words lx5_used lx5_letters lx5_starts lx5_arities lx5_kinds lx5_slots 24 (tw_bt 8)
def lx6_letters : Nat → Int32 := m_Lexicon_load_w1 lx5_words lx5_used lx5_letters lx5_starts lx5_arities lx5_kinds lx5_slots 24 (tw_bt 8)
def lx6_starts : Nat → Int32 := m_Lexicon_load_w2 lx5_words lx5_used lx5_letters lx5_starts lx5_arities lx5_kinds lx5_slots 24 (tw_bt 8)
def lx6_arities : Nat → Int32 := m_Lexicon_load_w3 lx5_words lx5_used lx5_letters lx5_starts lx5_arities lx5_kinds lx5_slots 24 (tw_bt 8)
def lx6_kinds : Nat → Int32 := m_Lexicon_load_w4 lx5_words lx5_used lx5_letters lx5_starts lx5_arities lx5_kinds lx5_slots 24 (tw_bt 8)
def lx6_slots : Nat → Int32 := m_Lexicon_load_w5 lx5_words lx5_used lx5_letters lx5_starts lx5_arities lx5_kinds lx5_slots 24 (tw_bt 8)
set_option maxHeartbeats 4000000 in
set_option maxRecDepth 100000 in
/-- a new lexicon -/
theorem c_Lexicon_init (l : Launch) (dC : Nat → ClassId) (dI : Nat → Nat → Nat) (sz : Nat) (h0 : Nat) (cI : ClassId) (adK : Nat → Nat) (adV : Nat → Nat) (adA : Nat → Nat)  : Met l y_Lexicon_init w_Lexicon_init ({ frames := 5, cells := 5, slots := 1286, locals := 109 }) (va_Pc [.ref h0] (fun U => U.heap.size = sz ∧ va_P (dC, dI) classes [(h0, .inr (2, [.null, .null, .null, .null, .null, .int 0, .int 0]))] U.heap ∧ va_K (dC, dI) classes [(cI, .int)] U ∧ va_D (fun _ => True) [(h0, .inr (2, [.null, .null, .null, .null, .null, .int 0, .int 0]))] ∧ tw_E adK adV adA (va_A [(h0, .inr (2, [.null, .null, .null, .null, .null, .int 0, .int 0]))] sz) U U.heap)) (va_Qv (fun (_ : Unit) => True) (fun (_ : Unit) t => ∃ (q_1 q_2 q_3 q_4 q_5 : Nat), va_P (dC, dI) classes [(h0, .inr (2, [.ref q_1, .ref q_2, .ref q_3, .ref q_4, .ref q_5, .int lx6_words, .int lx6_used])), (q_1, .inl (cI, 600, .inl lx6_letters)), (q_2, .inl (cI, 86, .inl lx6_starts)), (q_3, .inl (cI, 86, .inl lx6_arities)), (q_4, .inl (cI, 258, .inl lx6_kinds)), (q_5, .inl (cI, 256, .inl lx6_slots))] t.heap ∧ va_K (dC, dI) classes [(cI, .int)] t ∧ va_D (va_A [(h0, .inr (2, [.null, .null, .null, .null, .null, .int 0, .int 0]))] sz) [(h0, .inr (2, [.ref q_1, .ref q_2, .ref q_3, .ref q_4, .ref q_5, .int lx6_words, .int lx6_used])), (q_1, .inl (cI, 600, .inl lx6_letters)), (q_2, .inl (cI, 86, .inl lx6_starts)), (q_3, .inl (cI, 86, .inl lx6_arities)), (q_4, .inl (cI, 258, .inl lx6_kinds)), (q_5, .inl (cI, 256, .inl lx6_slots))]) (va_A [(h0, .inr (2, [.null, .null, .null, .null, .null, .int 0, .int 0]))] sz)) 5 1286 (va_A [(h0, .inr (2, [.null, .null, .null, .null, .null, .int 0, .int 0]))] sz) := by
  refine Met.ofW (cc := b_Lexicon_init) (maxL := 1) (ret := none) (by decide) rfl ?_
  intro p e s m args below meth c s₁ B hml hv
  obtain ⟨rfl, hsz, hP, hK, hD0, hE⟩ := hv
  have hx := B.exec
  have hb := B.bytes
  have hr := B.returns
  have hts := atoms_spec (ws := w_Lexicon_init) B.pre
  have htt : ∀ w ∈ tw_T, w.before _ s = true := fun w h => hts w (List.mem_cons_of_mem _ h)
  have hown : s.vm.findClass R_Lexicon = some m.cls := findClass_of_methodNamed B.named
  have hlocks := B.notSynchronized
  subst hsz
  have hD := hD0.self (sz := s.heap.size)
  generalize hAe : va_A [(h0, .inr (2, [.null, .null, .null, .null, .null, .int 0, .int 0]))] s.heap.size = A at hD hE ⊢
  have hA : ∀ q : Nat, s.heap.size ≤ q → A q := fun q h => by rw [← hAe]; exact Or.inr h
  have hS : va_S A s.heap s.heap [] := va_S.rf
  have hP : va_P (dC, dI) classes [(h0, .inr (2, [.null, .null, .null, .null, .null, .int 0, .int 0]))] s.heap := hP
  have hl := lv_entry ([.ref h0]) (n := 1) (Nat.le_of_ble_eq_true rfl)
  rw [lg_entry_eq]
  generalize (lg_sl ([.ref h0]) ++ List.replicate (1 - (lg_sl ([.ref h0])).length) Slot.unset).toArray = ls at hl ⊢
  have hl : lv_has ls 1 [(0, .ref h0)] := hl
  have hin : meth.name = "<init>" := (name_of_methodNamed B.named B.method).1
  refine lv_aload_n hx hb d_Lexicon_init_0 rfl (lv_at hl 0 rfl) ?_
  refine W.objInit hx hb hown (htt _ lk_Lexicon_3) (htt _ in_objInit) (htt _ cw_objInit) rfl (by rw [hml]; exact hl.1) rfl d_Lexicon_init_1 (Nat.le_of_ble_eq_true rfl) (Nat.le_of_ble_eq_true rfl) ?_
  refine W.eq (g2 := F0 m 4 ls []) rfl ?_
  refine lv_aload_n hx hb d_Lexicon_init_4 rfl (lv_at hl 0 rfl) ?_
  refine lv_sipush (v := 600) hx hb d_Lexicon_init_5 (by decide) ?_
  refine va_newa (atype := .int) (ty := .int) (a0 := (600, .inl (fun _ => 0))) (N' := 600) hx hb (htt _ ac_int) rfl hK hP hD hS hA (fun _ => rfl) (by decide) (by decide) (by decide) (Nat.le_of_ble_eq_true rfl) (Nat.le_of_ble_eq_true rfl) d_Lexicon_init_8 (fun q_1 cA H hK hP hD hS => ?_)
  have e8 : cI = cA := cls_one hK rfl
  subst e8
  have hK := hK.sub (tys' := [(cI, .int)]) [0] rfl
  have hP : va_P (dC, dI) classes [(h0, .inr (2, [.null, .null, .null, .null, .null, .int 0, .int 0])), (q_1, .inl (cI, 600, .inl (fun _ => 0)))] H := hP
  have hD : va_D A [(h0, .inr (2, [.null, .null, .null, .null, .null, .int 0, .int 0])), (q_1, .inl (cI, 600, .inl (fun _ => 0)))] := hD
  refine va_putF (D := (dC, dI)) (ci := 2) (v := .ref q_1) (ty := .array .int) (C := R_Lexicon) (T := F_Lexicon) (N := 7) hx hb htt iw_Lexicon t_Lexicon t_Lexicon_ok n_Lexicon hown hK hP hD hS 0 rfl rfl 0 (by decide) (htt _ lk_Lexicon_11) (fun _ h9 => h9) rfl hin rfl (by decide +kernel) rfl rfl (Nat.le_of_ble_eq_true rfl) d_Lexicon_init_10 (fun H locs hP hD hS => ?_)
  have hP : va_P (dC, dI) classes [(h0, .inr (2, [.ref q_1, .null, .null, .null, .null, .int 0, .int 0])), (q_1, .inl (cI, 600, .inl (fun _ => 0)))] H := hP
  have hD : va_D A [(h0, .inr (2, [.ref q_1, .null, .null, .null, .null, .int 0, .int 0])), (q_1, .inl (cI, 600, .inl (fun _ => 0)))] := hD
  refine lv_aload_n hx hb d_Lexicon_init_13 rfl (lv_at hl 0 rfl) ?_
  refine lv_bipush (v := 86) hx hb d_Lexicon_init_14 (by decide) ?_
  refine va_newa (atype := .int) (ty := .int) (a0 := (86, .inl (fun _ => 0))) (N' := 86) hx hb (htt _ ac_int) rfl hK hP hD hS hA (fun _ => rfl) (by decide) (by decide) (by decide) (Nat.le_of_ble_eq_true rfl) (Nat.le_of_ble_eq_true rfl) d_Lexicon_init_16 (fun q_2 cA H hK hP hD hS => ?_)
  have e8 : cI = cA := cls_one hK rfl
  subst e8
  have hK := hK.sub (tys' := [(cI, .int)]) [0] rfl
  have hP : va_P (dC, dI) classes [(h0, .inr (2, [.ref q_1, .null, .null, .null, .null, .int 0, .int 0])), (q_1, .inl (cI, 600, .inl (fun _ => 0))), (q_2, .inl (cI, 86, .inl (fun _ => 0)))] H := hP
  have hD : va_D A [(h0, .inr (2, [.ref q_1, .null, .null, .null, .null, .int 0, .int 0])), (q_1, .inl (cI, 600, .inl (fun _ => 0))), (q_2, .inl (cI, 86, .inl (fun _ => 0)))] := hD
  refine va_putF (D := (dC, dI)) (ci := 2) (v := .ref q_2) (ty := .array .int) (C := R_Lexicon) (T := F_Lexicon) (N := 7) hx hb htt iw_Lexicon t_Lexicon t_Lexicon_ok n_Lexicon hown hK hP hD hS 0 rfl rfl 1 (by decide) (htt _ lk_Lexicon_15) (fun _ h9 => h9) rfl hin rfl (by decide +kernel) rfl rfl (Nat.le_of_ble_eq_true rfl) d_Lexicon_init_18 (fun H locs hP hD hS => ?_)
  have hP : va_P (dC, dI) classes [(h0, .inr (2, [.ref q_1, .ref q_2, .null, .null, .null, .int 0, .int 0])), (q_1, .inl (cI, 600, .inl (fun _ => 0))), (q_2, .inl (cI, 86, .inl (fun _ => 0)))] H := hP
  have hD : va_D A [(h0, .inr (2, [.ref q_1, .ref q_2, .null, .null, .null, .int 0, .int 0])), (q_1, .inl (cI, 600, .inl (fun _ => 0))), (q_2, .inl (cI, 86, .inl (fun _ => 0)))] := hD
  refine lv_aload_n hx hb d_Lexicon_init_21 rfl (lv_at hl 0 rfl) ?_
  refine lv_bipush (v := 86) hx hb d_Lexicon_init_22 (by decide) ?_
  refine va_newa (atype := .int) (ty := .int) (a0 := (86, .inl (fun _ => 0))) (N' := 86) hx hb (htt _ ac_int) rfl hK hP hD hS hA (fun _ => rfl) (by decide) (by decide) (by decide) (Nat.le_of_ble_eq_true rfl) (Nat.le_of_ble_eq_true rfl) d_Lexicon_init_24 (fun q_3 cA H hK hP hD hS => ?_)
  have e8 : cI = cA := cls_one hK rfl
  subst e8
  have hK := hK.sub (tys' := [(cI, .int)]) [0] rfl
  have hP : va_P (dC, dI) classes [(h0, .inr (2, [.ref q_1, .ref q_2, .null, .null, .null, .int 0, .int 0])), (q_1, .inl (cI, 600, .inl (fun _ => 0))), (q_2, .inl (cI, 86, .inl (fun _ => 0))), (q_3, .inl (cI, 86, .inl (fun _ => 0)))] H := hP
  have hD : va_D A [(h0, .inr (2, [.ref q_1, .ref q_2, .null, .null, .null, .int 0, .int 0])), (q_1, .inl (cI, 600, .inl (fun _ => 0))), (q_2, .inl (cI, 86, .inl (fun _ => 0))), (q_3, .inl (cI, 86, .inl (fun _ => 0)))] := hD
  refine va_putF (D := (dC, dI)) (ci := 2) (v := .ref q_3) (ty := .array .int) (C := R_Lexicon) (T := F_Lexicon) (N := 7) hx hb htt iw_Lexicon t_Lexicon t_Lexicon_ok n_Lexicon hown hK hP hD hS 0 rfl rfl 2 (by decide) (htt _ lk_Lexicon_18) (fun _ h9 => h9) rfl hin rfl (by decide +kernel) rfl rfl (Nat.le_of_ble_eq_true rfl) d_Lexicon_init_26 (fun H locs hP hD hS => ?_)
  have hP : va_P (dC, dI) classes [(h0, .inr (2, [.ref q_1, .ref q_2, .ref q_3, .null, .null, .int 0, .int 0])), (q_1, .inl (cI, 600, .inl (fun _ => 0))), (q_2, .inl (cI, 86, .inl (fun _ => 0))), (q_3, .inl (cI, 86, .inl (fun _ => 0)))] H := hP
  have hD : va_D A [(h0, .inr (2, [.ref q_1, .ref q_2, .ref q_3, .null, .null, .int 0, .int 0])), (q_1, .inl (cI, 600, .inl (fun _ => 0))), (q_2, .inl (cI, 86, .inl (fun _ => 0))), (q_3, .inl (cI, 86, .inl (fun _ => 0)))] := hD
  refine lv_aload_n hx hb d_Lexicon_init_29 rfl (lv_at hl 0 rfl) ?_
  refine lv_sipush (v := 258) hx hb d_Lexicon_init_30 (by decide) ?_
  refine va_newa (atype := .int) (ty := .int) (a0 := (258, .inl (fun _ => 0))) (N' := 258) hx hb (htt _ ac_int) rfl hK hP hD hS hA (fun _ => rfl) (by decide) (by decide) (by decide) (Nat.le_of_ble_eq_true rfl) (Nat.le_of_ble_eq_true rfl) d_Lexicon_init_33 (fun q_4 cA H hK hP hD hS => ?_)
  have e8 : cI = cA := cls_one hK rfl
  subst e8
  have hK := hK.sub (tys' := [(cI, .int)]) [0] rfl
  have hP : va_P (dC, dI) classes [(h0, .inr (2, [.ref q_1, .ref q_2, .ref q_3, .null, .null, .int 0, .int 0])), (q_1, .inl (cI, 600, .inl (fun _ => 0))), (q_2, .inl (cI, 86, .inl (fun _ => 0))), (q_3, .inl (cI, 86, .inl (fun _ => 0))), (q_4, .inl (cI, 258, .inl (fun _ => 0)))] H := hP
  have hD : va_D A [(h0, .inr (2, [.ref q_1, .ref q_2, .ref q_3, .null, .null, .int 0, .int 0])), (q_1, .inl (cI, 600, .inl (fun _ => 0))), (q_2, .inl (cI, 86, .inl (fun _ => 0))), (q_3, .inl (cI, 86, .inl (fun _ => 0))), (q_4, .inl (cI, 258, .inl (fun _ => 0)))] := hD
  refine va_putF (D := (dC, dI)) (ci := 2) (v := .ref q_4) (ty := .array .int) (C := R_Lexicon) (T := F_Lexicon) (N := 7) hx hb htt iw_Lexicon t_Lexicon t_Lexicon_ok n_Lexicon hown hK hP hD hS 0 rfl rfl 3 (by decide) (htt _ lk_Lexicon_21) (fun _ h9 => h9) rfl hin rfl (by decide +kernel) rfl rfl (Nat.le_of_ble_eq_true rfl) d_Lexicon_init_35 (fun H locs hP hD hS => ?_)
  have hP : va_P (dC, dI) classes [(h0, .inr (2, [.ref q_1, .ref q_2, .ref q_3, .ref q_4, .null, .int 0, .int 0])), (q_1, .inl (cI, 600, .inl (fun _ => 0))), (q_2, .inl (cI, 86, .inl (fun _ => 0))), (q_3, .inl (cI, 86, .inl (fun _ => 0))), (q_4, .inl (cI, 258, .inl (fun _ => 0)))] H := hP
  have hD : va_D A [(h0, .inr (2, [.ref q_1, .ref q_2, .ref q_3, .ref q_4, .null, .int 0, .int 0])), (q_1, .inl (cI, 600, .inl (fun _ => 0))), (q_2, .inl (cI, 86, .inl (fun _ => 0))), (q_3, .inl (cI, 86, .inl (fun _ => 0))), (q_4, .inl (cI, 258, .inl (fun _ => 0)))] := hD
  refine lv_aload_n hx hb d_Lexicon_init_38 rfl (lv_at hl 0 rfl) ?_
  refine lv_sipush (v := 256) hx hb d_Lexicon_init_39 (by decide) ?_
  refine va_newa (atype := .int) (ty := .int) (a0 := (256, .inl (fun _ => 0))) (N' := 256) hx hb (htt _ ac_int) rfl hK hP hD hS hA (fun _ => rfl) (by decide) (by decide) (by decide) (Nat.le_of_ble_eq_true rfl) (Nat.le_of_ble_eq_true rfl) d_Lexicon_init_42 (fun q_5 cA H hK hP hD hS => ?_)
  have e8 : cI = cA := cls_one hK rfl
  subst e8
  have hK := hK.sub (tys' := [(cI, .int)]) [0] rfl
  have hP : va_P (dC, dI) classes [(h0, .inr (2, [.ref q_1, .ref q_2, .ref q_3, .ref q_4, .null, .int 0, .int 0])), (q_1, .inl (cI, 600, .inl (fun _ => 0))), (q_2, .inl (cI, 86, .inl (fun _ => 0))), (q_3, .inl (cI, 86, .inl (fun _ => 0))), (q_4, .inl (cI, 258, .inl (fun _ => 0))), (q_5, .inl (cI, 256, .inl (fun _ => 0)))] H := hP
  have hD : va_D A [(h0, .inr (2, [.ref q_1, .ref q_2, .ref q_3, .ref q_4, .null, .int 0, .int 0])), (q_1, .inl (cI, 600, .inl (fun _ => 0))), (q_2, .inl (cI, 86, .inl (fun _ => 0))), (q_3, .inl (cI, 86, .inl (fun _ => 0))), (q_4, .inl (cI, 258, .inl (fun _ => 0))), (q_5, .inl (cI, 256, .inl (fun _ => 0)))] := hD
  refine va_putF (D := (dC, dI)) (ci := 2) (v := .ref q_5) (ty := .array .int) (C := R_Lexicon) (T := F_Lexicon) (N := 7) hx hb htt iw_Lexicon t_Lexicon t_Lexicon_ok n_Lexicon hown hK hP hD hS 0 rfl rfl 4 (by decide) (htt _ lk_Lexicon_24) (fun _ h9 => h9) rfl hin rfl (by decide +kernel) rfl rfl (Nat.le_of_ble_eq_true rfl) d_Lexicon_init_44 (fun H locs hP hD hS => ?_)
  have hP : va_P (dC, dI) classes [(h0, .inr (2, [.ref q_1, .ref q_2, .ref q_3, .ref q_4, .ref q_5, .int 0, .int 0])), (q_1, .inl (cI, 600, .inl (fun _ => 0))), (q_2, .inl (cI, 86, .inl (fun _ => 0))), (q_3, .inl (cI, 86, .inl (fun _ => 0))), (q_4, .inl (cI, 258, .inl (fun _ => 0))), (q_5, .inl (cI, 256, .inl (fun _ => 0)))] H := hP
  have hD : va_D A [(h0, .inr (2, [.ref q_1, .ref q_2, .ref q_3, .ref q_4, .ref q_5, .int 0, .int 0])), (q_1, .inl (cI, 600, .inl (fun _ => 0))), (q_2, .inl (cI, 86, .inl (fun _ => 0))), (q_3, .inl (cI, 86, .inl (fun _ => 0))), (q_4, .inl (cI, 258, .inl (fun _ => 0))), (q_5, .inl (cI, 256, .inl (fun _ => 0)))] := hD
  refine lv_aload_n hx hb d_Lexicon_init_47 rfl (lv_at hl 0 rfl) ?_
  refine va_ldcS hx hb hown (show vk_R "TurtleWorld$Lexicon" 27 _ (adK 3) s from hE.ref 3 (by decide)) d_Lexicon_init_48 ?_
  have hPc := hP.sub (ws' := [(h0, .inr (2, [.ref q_1, .ref q_2, .ref q_3, .ref q_4, .ref q_5, .int 0, .int 0])), (q_1, .inl (cI, 600, .inl ((fun _ => 0)))), (q_2, .inl (cI, 86, .inl ((fun _ => 0)))), (q_3, .inl (cI, 86, .inl ((fun _ => 0)))), (q_4, .inl (cI, 258, .inl ((fun _ => 0)))), (q_5, .inl (cI, 256, .inl ((fun _ => 0))))]) [0, 1, 2, 3, 4, 5] rfl
  have hDc := hD.sub (ws' := [(h0, .inr (2, [.ref q_1, .ref q_2, .ref q_3, .ref q_4, .ref q_5, .int 0, .int 0])), (q_1, .inl (cI, 600, .inl ((fun _ => 0)))), (q_2, .inl (cI, 86, .inl ((fun _ => 0)))), (q_3, .inl (cI, 86, .inl ((fun _ => 0)))), (q_4, .inl (cI, 258, .inl ((fun _ => 0)))), (q_5, .inl (cI, 256, .inl ((fun _ => 0))))]) [0, 1, 2, 3, 4, 5] (by decide) rfl
  have hKc := hK.sub (tys' := [(cI, .int)]) [0] rfl
  have hFc := va_free (wc := [(h0, .inr (2, [.ref q_1, .ref q_2, .ref q_3, .ref q_4, .ref q_5, .int 0, .int 0])), (q_1, .inl (cI, 600, .inl ((fun _ => 0)))), (q_2, .inl (cI, 86, .inl ((fun _ => 0)))), (q_3, .inl (cI, 86, .inl ((fun _ => 0)))), (q_4, .inl (cI, 258, .inl ((fun _ => 0)))), (q_5, .inl (cI, 256, .inl ((fun _ => 0))))]) hD hS hA [0, 1, 2, 3, 4, 5] rfl
  refine va_callv (va_runV (As := [.ref (adK 3)]) (rest := []) ⟨hx, hb, hml, hown, hts⟩ (c_Lexicon_load l dC dI H.size h0 q_1 q_2 q_3 q_4 q_5 0 0 (fun _ => 0) (fun _ => 0) (fun _ => 0) (fun _ => 0) (fun _ => 0) cI (adK 3) (adV 3) 106 (tw_bt 3) (lx_0)) (cwV 1 hts (tw_GV tw_cons cw_Lexicon_load lk_Lexicon_29 in_Lexicon_load sel_Lexicon_load ini_Lexicon) rfl rfl rfl (by decide +kernel) ⟨Nat.le_of_ble_eq_true rfl, Nat.le_of_ble_eq_true rfl⟩) ⟨fun a U g mk q => by obtain ⟨q0, q1, qP, qK, qD, qE0⟩ := q; exact ⟨q0, q1, qP, va_K.moved (u := U) (U := U.calling g mk a) (Vm.Alike.refl U.vm) qK, qD, tw_str.blind qE0⟩, va_recv hKc hPc (ci := 2) (q0 := 0) rfl rfl, fun U hU hW => ⟨rfl, by rw [hU], by rw [hU]; exact hPc, va_K.moved hW.alike hKc, hDc.weaken (fun _ _ _ _ => trivial), tw_str.pass (hE.str 3 (by decide)) hS hFc hW hU⟩⟩ rfl rfl hl.1 rfl (lv_room (Nat.le_of_ble_eq_true rfl)) d_Lexicon_init_50 ⟨Nat.le_of_ble_eq_true rfl, Nat.le_of_ble_eq_true rfl⟩) hS (fun q _ h => hFc q h) hFc (fun u9 t9 H1 locs ht hvm e9 hB hz1 hk1 hS => ?_)
  obtain ⟨hP1, hK1, hD1⟩ := hB
  rw [ht] at hP1
  obtain ⟨hP, hD⟩ := va_join (wr := []) (w1 := [(h0, .inr (2, [.ref q_1, .ref q_2, .ref q_3, .ref q_4, .ref q_5, .int (m_Lexicon_load_w0_5 0 0 (fun _ => 0) (fun _ => 0) (fun _ => 0) (fun _ => 0) (fun _ => 0) 106 (tw_bt 3)), .int (m_Lexicon_load_w0_6 0 0 (fun _ => 0) (fun _ => 0) (fun _ => 0) (fun _ => 0) (fun _ => 0) 106 (tw_bt 3))])), (q_1, .inl (cI, 600, .inl (m_Lexicon_load_w1 0 0 (fun _ => 0) (fun _ => 0) (fun _ => 0) (fun _ => 0) (fun _ => 0) 106 (tw_bt 3)))), (q_2, .inl (cI, 86, .inl (m_Lexicon_load_w2 0 0 (fun _ => 0) (fun _ => 0) (fun _ => 0) (fun _ => 0) (fun _ => 0) 106 (tw_bt 3)))), (q_3, .inl (cI, 86, .inl (m_Lexicon_load_w3 0 0 (fun _ => 0) (fun _ => 0) (fun _ => 0) (fun _ => 0) (fun _ => 0) 106 (tw_bt 3)))), (q_4, .inl (cI, 258, .inl (m_Lexicon_load_w4 0 0 (fun _ => 0) (fun _ => 0) (fun _ => 0) (fun _ => 0) (fun _ => 0) 106 (tw_bt 3)))), (q_5, .inl (cI, 256, .inl (m_Lexicon_load_w5 0 0 (fun _ => 0) (fun _ => 0) (fun _ => 0) (fun _ => 0) (fun _ => 0) 106 (tw_bt 3))))]) hP hD [0, 1, 2, 3, 4, 5] [] rfl rfl (by decide) (by decide) hk1 hFc hP1 hD1
  clear hP1 hD1 hK1 hvm hz1 hk1 hFc hKc hDc hPc
  subst ht
  generalize t9.heap = H at hP hS ⊢
  have hP : va_P (dC, dI) classes [(h0, .inr (2, [.ref q_1, .ref q_2, .ref q_3, .ref q_4, .ref q_5, .int lx1_words, .int lx1_used])), (q_1, .inl (cI, 600, .inl lx1_letters)), (q_2, .inl (cI, 86, .inl lx1_starts)), (q_3, .inl (cI, 86, .inl lx1_arities)), (q_4, .inl (cI, 258, .inl lx1_kinds)), (q_5, .inl (cI, 256, .inl lx1_slots))] H := hP
  have hD : va_D A [(h0, .inr (2, [.ref q_1, .ref q_2, .ref q_3, .ref q_4, .ref q_5, .int lx1_words, .int lx1_used])), (q_1, .inl (cI, 600, .inl lx1_letters)), (q_2, .inl (cI, 86, .inl lx1_starts)), (q_3, .inl (cI, 86, .inl lx1_arities)), (q_4, .inl (cI, 258, .inl lx1_kinds)), (q_5, .inl (cI, 256, .inl lx1_slots))] := hD
  refine lv_aload_n hx hb d_Lexicon_init_53 rfl (lv_at hl 0 rfl) ?_
  refine va_ldcS hx hb hown (show vk_R "TurtleWorld$Lexicon" 33 _ (adK 4) s from hE.ref 4 (by decide)) d_Lexicon_init_54 ?_
  have hPc := hP.sub (ws' := [(h0, .inr (2, [.ref q_1, .ref q_2, .ref q_3, .ref q_4, .ref q_5, .int lx1_words, .int lx1_used])), (q_1, .inl (cI, 600, .inl lx1_letters)), (q_2, .inl (cI, 86, .inl lx1_starts)), (q_3, .inl (cI, 86, .inl lx1_arities)), (q_4, .inl (cI, 258, .inl lx1_kinds)), (q_5, .inl (cI, 256, .inl lx1_slots))]) [0, 1, 2, 3, 4, 5] rfl
  have hDc := hD.sub (ws' := [(h0, .inr (2, [.ref q_1, .ref q_2, .ref q_3, .ref q_4, .ref q_5, .int lx1_words, .int lx1_used])), (q_1, .inl (cI, 600, .inl lx1_letters)), (q_2, .inl (cI, 86, .inl lx1_starts)), (q_3, .inl (cI, 86, .inl lx1_arities)), (q_4, .inl (cI, 258, .inl lx1_kinds)), (q_5, .inl (cI, 256, .inl lx1_slots))]) [0, 1, 2, 3, 4, 5] (by decide) rfl
  have hKc := hK.sub (tys' := [(cI, .int)]) [0] rfl
  have hFc := va_free (wc := [(h0, .inr (2, [.ref q_1, .ref q_2, .ref q_3, .ref q_4, .ref q_5, .int lx1_words, .int lx1_used])), (q_1, .inl (cI, 600, .inl lx1_letters)), (q_2, .inl (cI, 86, .inl lx1_starts)), (q_3, .inl (cI, 86, .inl lx1_arities)), (q_4, .inl (cI, 258, .inl lx1_kinds)), (q_5, .inl (cI, 256, .inl lx1_slots))]) hD hS hA [0, 1, 2, 3, 4, 5] rfl
  refine va_callv (va_runV (As := [.ref (adK 4)]) (rest := []) ⟨hx, hb, hml, hown, hts⟩ (c_Lexicon_load l dC dI H.size h0 q_1 q_2 q_3 q_4 q_5 lx1_words lx1_used lx1_letters lx1_starts lx1_arities lx1_kinds lx1_slots cI (adK 4) (adV 4) 113 (tw_bt 4) (lx_ld lx_0)) (cwV 1 hts (tw_GV tw_cons cw_Lexicon_load lk_Lexicon_29 in_Lexicon_load sel_Lexicon_load ini_Lexicon) rfl rfl rfl (by decide +kernel) ⟨Nat.le_of_ble_eq_true rfl, Nat.le_of_ble_eq_true rfl⟩) ⟨fun a U g mk q => by obtain ⟨q0, q1, qP, qK, qD, qE0⟩ := q; exact ⟨q0, q1, qP, va_K.moved (u := U) (U := U.calling g mk a) (Vm.Alike.refl U.vm) qK, qD, tw_str.blind qE0⟩, va_recv hKc hPc (ci := 2) (q0 := 0) rfl rfl, fun U hU hW => ⟨rfl, by rw [hU], by rw [hU]; exact hPc, va_K.moved hW.alike hKc, hDc.weaken (fun _ _ _ _ => trivial), tw_str.pass (hE.str 4 (by decide)) hS hFc hW hU⟩⟩ rfl rfl hl.1 rfl (lv_room (Nat.le_of_ble_eq_true rfl)) d_Lexicon_init_56 ⟨Nat.le_of_ble_eq_true rfl, Nat.le_of_ble_eq_true rfl⟩) hS (fun q _ h => hFc q h) hFc (fun u9 t9 H1 locs ht hvm e9 hB hz1 hk1 hS => ?_)
  obtain ⟨hP1, hK1, hD1⟩ := hB
  rw [ht] at hP1
  obtain ⟨hP, hD⟩ := va_join (wr := []) (w1 := [(h0, .inr (2, [.ref q_1, .ref q_2, .ref q_3, .ref q_4, .ref q_5, .int (m_Lexicon_load_w0_5 lx1_words lx1_used lx1_letters lx1_starts lx1_arities lx1_kinds lx1_slots 113 (tw_bt 4)), .int (m_Lexicon_load_w0_6 lx1_words lx1_used lx1_letters lx1_starts lx1_arities lx1_kinds lx1_slots 113 (tw_bt 4))])), (q_1, .inl (cI, 600, .inl (m_Lexicon_load_w1 lx1_words lx1_used lx1_letters lx1_starts lx1_arities lx1_kinds lx1_slots 113 (tw_bt 4)))), (q_2, .inl (cI, 86, .inl (m_Lexicon_load_w2 lx1_words lx1_used lx1_letters lx1_starts lx1_arities lx1_kinds lx1_slots 113 (tw_bt 4)))), (q_3, .inl (cI, 86, .inl (m_Lexicon_load_w3 lx1_words lx1_used lx1_letters lx1_starts lx1_arities lx1_kinds lx1_slots 113 (tw_bt 4)))), (q_4, .inl (cI, 258, .inl (m_Lexicon_load_w4 lx1_words lx1_used lx1_letters lx1_starts lx1_arities lx1_kinds lx1_slots 113 (tw_bt 4)))), (q_5, .inl (cI, 256, .inl (m_Lexicon_load_w5 lx1_words lx1_used lx1_letters lx1_starts lx1_arities lx1_kinds lx1_slots 113 (tw_bt 4))))]) hP hD [0, 1, 2, 3, 4, 5] [] rfl rfl (by decide) (by decide) hk1 hFc hP1 hD1
  clear hP1 hD1 hK1 hvm hz1 hk1 hFc hKc hDc hPc
  subst ht
  generalize t9.heap = H at hP hS ⊢
  have hP : va_P (dC, dI) classes [(h0, .inr (2, [.ref q_1, .ref q_2, .ref q_3, .ref q_4, .ref q_5, .int lx2_words, .int lx2_used])), (q_1, .inl (cI, 600, .inl lx2_letters)), (q_2, .inl (cI, 86, .inl lx2_starts)), (q_3, .inl (cI, 86, .inl lx2_arities)), (q_4, .inl (cI, 258, .inl lx2_kinds)), (q_5, .inl (cI, 256, .inl lx2_slots))] H := hP
  have hD : va_D A [(h0, .inr (2, [.ref q_1, .ref q_2, .ref q_3, .ref q_4, .ref q_5, .int lx2_words, .int lx2_used])), (q_1, .inl (cI, 600, .inl lx2_letters)), (q_2, .inl (cI, 86, .inl lx2_starts)), (q_3, .inl (cI, 86, .inl lx2_arities)), (q_4, .inl (cI, 258, .inl lx2_kinds)), (q_5, .inl (cI, 256, .inl lx2_slots))] := hD
  refine lv_aload_n hx hb d_Lexicon_init_59 rfl (lv_at hl 0 rfl) ?_
  refine va_ldcS hx hb hown (show vk_R "TurtleWorld$Lexicon" 35 _ (adK 5) s from hE.ref 5 (by decide)) d_Lexicon_init_60 ?_
  have hPc := hP.sub (ws' := [(h0, .inr (2, [.ref q_1, .ref q_2, .ref q_3, .ref q_4, .ref q_5, .int lx2_words, .int lx2_used])), (q_1, .inl (cI, 600, .inl lx2_letters)), (q_2, .inl (cI, 86, .inl lx2_starts)), (q_3, .inl (cI, 86, .inl lx2_arities)), (q_4, .inl (cI, 258, .inl lx2_kinds)), (q_5, .inl (cI, 256, .inl lx2_slots))]) [0, 1, 2, 3, 4, 5] rfl
  have hDc := hD.sub (ws' := [(h0, .inr (2, [.ref q_1, .ref q_2, .ref q_3, .ref q_4, .ref q_5, .int lx2_words, .int lx2_used])), (q_1, .inl (cI, 600, .inl lx2_letters)), (q_2, .inl (cI, 86, .inl lx2_starts)), (q_3, .inl (cI, 86, .inl lx2_arities)), (q_4, .inl (cI, 258, .inl lx2_kinds)), (q_5, .inl (cI, 256, .inl lx2_slots))]) [0, 1, 2, 3, 4, 5] (by decide) rfl
  have hKc := hK.sub (tys' := [(cI, .int)]) [0] rfl
  have hFc := va_free (wc := [(h0, .inr (2, [.ref q_1, .ref q_2, .ref q_3, .ref q_4, .ref q_5, .int lx2_words, .int lx2_used])), (q_1, .inl (cI, 600, .inl lx2_letters)), (q_2, .inl (cI, 86, .inl lx2_starts)), (q_3, .inl (cI, 86, .inl lx2_arities)), (q_4, .inl (cI, 258, .inl lx2_kinds)), (q_5, .inl (cI, 256, .inl lx2_slots))]) hD hS hA [0, 1, 2, 3, 4, 5] rfl
  refine va_callv (va_runV (As := [.ref (adK 5)]) (rest := []) ⟨hx, hb, hml, hown, hts⟩ (c_Lexicon_load l dC dI H.size h0 q_1 q_2 q_3 q_4 q_5 lx2_words lx2_used lx2_letters lx2_starts lx2_arities lx2_kinds lx2_slots cI (adK 5) (adV 5) 161 (tw_bt 5) (lx_ld (lx_ld lx_0))) (cwV 1 hts (tw_GV tw_cons cw_Lexicon_load lk_Lexicon_29 in_Lexicon_load sel_Lexicon_load ini_Lexicon) rfl rfl rfl (by decide +kernel) ⟨Nat.le_of_ble_eq_true rfl, Nat.le_of_ble_eq_true rfl⟩) ⟨fun a U g mk q => by obtain ⟨q0, q1, qP, qK, qD, qE0⟩ := q; exact ⟨q0, q1, qP, va_K.moved (u := U) (U := U.calling g mk a) (Vm.Alike.refl U.vm) qK, qD, tw_str.blind qE0⟩, va_recv hKc hPc (ci := 2) (q0 := 0) rfl rfl, fun U hU hW => ⟨rfl, by rw [hU], by rw [hU]; exact hPc, va_K.moved hW.alike hKc, hDc.weaken (fun _ _ _ _ => trivial), tw_str.pass (hE.str 5 (by decide)) hS hFc hW hU⟩⟩ rfl rfl hl.1 rfl (lv_room (Nat.le_of_ble_eq_true rfl)) d_Lexicon_init_62 ⟨Nat.le_of_ble_eq_true rfl, Nat.le_of_ble_eq_true rfl⟩) hS (fun q _ h => hFc q h) hFc (fun u9 t9 H1 locs ht hvm e9 hB hz1 hk1 hS => ?_)
  obtain ⟨hP1, hK1, hD1⟩ := hB
  rw [ht] at hP1
  obtain ⟨hP, hD⟩ := va_join (wr := []) (w1 := [(h0, .inr (2, [.ref q_1, .ref q_2, .ref q_3, .ref q_4, .ref q_5, .int (m_Lexicon_load_w0_5 lx2_words lx2_used lx2_letters lx2_starts lx2_arities lx2_kinds lx2_slots 161 (tw_bt 5)), .int (m_Lexicon_load_w0_6 lx2_words lx2_used lx2_letters lx2_starts lx2_arities lx2_kinds lx2_slots 161 (tw_bt 5))])), (q_1, .inl (cI, 600, .inl (m_Lexicon_load_w1 lx2_words lx2_used lx2_letters lx2_starts lx2_arities lx2_kinds lx2_slots 161 (tw_bt 5)))), (q_2, .inl (cI, 86, .inl (m_Lexicon_load_w2 lx2_words lx2_used lx2_letters lx2_starts lx2_arities lx2_kinds lx2_slots 161 (tw_bt 5)))), (q_3, .inl (cI, 86, .inl (m_Lexicon_load_w3 lx2_words lx2_used lx2_letters lx2_starts lx2_arities lx2_kinds lx2_slots 161 (tw_bt 5)))), (q_4, .inl (cI, 258, .inl (m_Lexicon_load_w4 lx2_words lx2_used lx2_letters lx2_starts lx2_arities lx2_kinds lx2_slots 161 (tw_bt 5)))), (q_5, .inl (cI, 256, .inl (m_Lexicon_load_w5 lx2_words lx2_used lx2_letters lx2_starts lx2_arities lx2_kinds lx2_slots 161 (tw_bt 5))))]) hP hD [0, 1, 2, 3, 4, 5] [] rfl rfl (by decide) (by decide) hk1 hFc hP1 hD1
  clear hP1 hD1 hK1 hvm hz1 hk1 hFc hKc hDc hPc
  subst ht
  generalize t9.heap = H at hP hS ⊢
  have hP : va_P (dC, dI) classes [(h0, .inr (2, [.ref q_1, .ref q_2, .ref q_3, .ref q_4, .ref q_5, .int lx3_words, .int lx3_used])), (q_1, .inl (cI, 600, .inl lx3_letters)), (q_2, .inl (cI, 86, .inl lx3_starts)), (q_3, .inl (cI, 86, .inl lx3_arities)), (q_4, .inl (cI, 258, .inl lx3_kinds)), (q_5, .inl (cI, 256, .inl lx3_slots))] H := hP
  have hD : va_D A [(h0, .inr (2, [.ref q_1, .ref q_2, .ref q_3, .ref q_4, .ref q_5, .int lx3_words, .int lx3_used])), (q_1, .inl (cI, 600, .inl lx3_letters)), (q_2, .inl (cI, 86, .inl lx3_starts)), (q_3, .inl (cI, 86, .inl lx3_arities)), (q_4, .inl (cI, 258, .inl lx3_kinds)), (q_5, .inl (cI, 256, .inl lx3_slots))] := hD
  refine lv_aload_n hx hb d_Lexicon_init_65 rfl (lv_at hl 0 rfl) ?_
  refine va_ldcS hx hb hown (show vk_R "TurtleWorld$Lexicon" 37 _ (adK 6) s from hE.ref 6 (by decide)) d_Lexicon_init_66 ?_
  have hPc := hP.sub (ws' := [(h0, .inr (2, [.ref q_1, .ref q_2, .ref q_3, .ref q_4, .ref q_5, .int lx3_words, .int lx3_used])), (q_1, .inl (cI, 600, .inl lx3_letters)), (q_2, .inl (cI, 86, .inl lx3_starts)), (q_3, .inl (cI, 86, .inl lx3_arities)), (q_4, .inl (cI, 258, .inl lx3_kinds)), (q_5, .inl (cI, 256, .inl lx3_slots))]) [0, 1, 2, 3, 4, 5] rfl
  have hDc := hD.sub (ws' := [(h0, .inr (2, [.ref q_1, .ref q_2, .ref q_3, .ref q_4, .ref q_5, .int lx3_words, .int lx3_used])), (q_1, .inl (cI, 600, .inl lx3_letters)), (q_2, .inl (cI, 86, .inl lx3_starts)), (q_3, .inl (cI, 86, .inl lx3_arities)), (q_4, .inl (cI, 258, .inl lx3_kinds)), (q_5, .inl (cI, 256, .inl lx3_slots))]) [0, 1, 2, 3, 4, 5] (by decide) rfl
  have hKc := hK.sub (tys' := [(cI, .int)]) [0] rfl
  have hFc := va_free (wc := [(h0, .inr (2, [.ref q_1, .ref q_2, .ref q_3, .ref q_4, .ref q_5, .int lx3_words, .int lx3_used])), (q_1, .inl (cI, 600, .inl lx3_letters)), (q_2, .inl (cI, 86, .inl lx3_starts)), (q_3, .inl (cI, 86, .inl lx3_arities)), (q_4, .inl (cI, 258, .inl lx3_kinds)), (q_5, .inl (cI, 256, .inl lx3_slots))]) hD hS hA [0, 1, 2, 3, 4, 5] rfl
  refine va_callv (va_runV (As := [.ref (adK 6)]) (rest := []) ⟨hx, hb, hml, hown, hts⟩ (c_Lexicon_load l dC dI H.size h0 q_1 q_2 q_3 q_4 q_5 lx3_words lx3_used lx3_letters lx3_starts lx3_arities lx3_kinds lx3_slots cI (adK 6) (adV 6) 78 (tw_bt 6) (lx_ld (lx_ld (lx_ld lx_0)))) (cwV 1 hts (tw_GV tw_cons cw_Lexicon_load lk_Lexicon_29 in_Lexicon_load sel_Lexicon_load ini_Lexicon) rfl rfl rfl (by decide +kernel) ⟨Nat.le_of_ble_eq_true rfl, Nat.le_of_ble_eq_true rfl⟩) ⟨fun a U g mk q => by obtain ⟨q0, q1, qP, qK, qD, qE0⟩ := q; exact ⟨q0, q1, qP, va_K.moved (u := U) (U := U.calling g mk a) (Vm.Alike.refl U.vm) qK, qD, tw_str.blind qE0⟩, va_recv hKc hPc (ci := 2) (q0 := 0) rfl rfl, fun U hU hW => ⟨rfl, by rw [hU], by rw [hU]; exact hPc, va_K.moved hW.alike hKc, hDc.weaken (fun _ _ _ _ => trivial), tw_str.pass (hE.str 6 (by decide)) hS hFc hW hU⟩⟩ rfl rfl hl.1 rfl (lv_room (Nat.le_of_ble_eq_true rfl)) d_Lexicon_init_68 ⟨Nat.le_of_ble_eq_true rfl, Nat.le_of_ble_eq_true rfl⟩) hS (fun q _ h => hFc q h) hFc (fun u9 t9 H1 locs ht hvm e9 hB hz1 hk1 hS => ?_)
  obtain ⟨hP1, hK1, hD1⟩ := hB
  rw [ht] at hP1
  obtain ⟨hP, hD⟩ := va_join (wr := []) (w1 := [(h0, .inr (2, [.ref q_1, .ref q_2, .ref q_3, .ref q_4, .ref q_5, .int (m_Lexicon_load_w0_5 lx3_words lx3_used lx3_letters lx3_starts lx3_arities lx3_kinds lx3_slots 78 (tw_bt 6)), .int (m_Lexicon_load_w0_6 lx3_words lx3_used lx3_letters lx3_starts lx3_arities lx3_kinds lx3_slots 78 (tw_bt 6))])), (q_1, .inl (cI, 600, .inl (m_Lexicon_load_w1 lx3_words lx3_used lx3_letters lx3_starts lx3_arities lx3_kinds lx3_slots 78 (tw_bt 6)))), (q_2, .inl (cI, 86, .inl (m_Lexicon_load_w2 lx3_words lx3_used lx3_letters lx3_starts lx3_arities lx3_kinds lx3_slots 78 (tw_bt 6)))), (q_3, .inl (cI, 86, .inl (m_Lexicon_load_w3 lx3_words lx3_used lx3_letters lx3_starts lx3_arities lx3_kinds lx3_slots 78 (tw_bt 6)))), (q_4, .inl (cI, 258, .inl (m_Lexicon_load_w4 lx3_words lx3_used lx3_letters lx3_starts lx3_arities lx3_kinds lx3_slots 78 (tw_bt 6)))), (q_5, .inl (cI, 256, .inl (m_Lexicon_load_w5 lx3_words lx3_used lx3_letters lx3_starts lx3_arities lx3_kinds lx3_slots 78 (tw_bt 6))))]) hP hD [0, 1, 2, 3, 4, 5] [] rfl rfl (by decide) (by decide) hk1 hFc hP1 hD1
  clear hP1 hD1 hK1 hvm hz1 hk1 hFc hKc hDc hPc
  subst ht
  generalize t9.heap = H at hP hS ⊢
  have hP : va_P (dC, dI) classes [(h0, .inr (2, [.ref q_1, .ref q_2, .ref q_3, .ref q_4, .ref q_5, .int lx4_words, .int lx4_used])), (q_1, .inl (cI, 600, .inl lx4_letters)), (q_2, .inl (cI, 86, .inl lx4_starts)), (q_3, .inl (cI, 86, .inl lx4_arities)), (q_4, .inl (cI, 258, .inl lx4_kinds)), (q_5, .inl (cI, 256, .inl lx4_slots))] H := hP
  have hD : va_D A [(h0, .inr (2, [.ref q_1, .ref q_2, .ref q_3, .ref q_4, .ref q_5, .int lx4_words, .int lx4_used])), (q_1, .inl (cI, 600, .inl lx4_letters)), (q_2, .inl (cI, 86, .inl lx4_starts)), (q_3, .inl (cI, 86, .inl lx4_arities)), (q_4, .inl (cI, 258, .inl lx4_kinds)), (q_5, .inl (cI, 256, .inl lx4_slots))] := hD
  refine lv_aload_n hx hb d_Lexicon_init_71 rfl (lv_at hl 0 rfl) ?_
  refine va_ldcS hx hb hown (show vk_R "TurtleWorld$Lexicon" 39 _ (adK 7) s from hE.ref 7 (by decide)) d_Lexicon_init_72 ?_
  have hPc := hP.sub (ws' := [(h0, .inr (2, [.ref q_1, .ref q_2, .ref q_3, .ref q_4, .ref q_5, .int lx4_words, .int lx4_used])), (q_1, .inl (cI, 600, .inl lx4_letters)), (q_2, .inl (cI, 86, .inl lx4_starts)), (q_3, .inl (cI, 86, .inl lx4_arities)), (q_4, .inl (cI, 258, .inl lx4_kinds)), (q_5, .inl (cI, 256, .inl lx4_slots))]) [0, 1, 2, 3, 4, 5] rfl
  have hDc := hD.sub (ws' := [(h0, .inr (2, [.ref q_1, .ref q_2, .ref q_3, .ref q_4, .ref q_5, .int lx4_words, .int lx4_used])), (q_1, .inl (cI, 600, .inl lx4_letters)), (q_2, .inl (cI, 86, .inl lx4_starts)), (q_3, .inl (cI, 86, .inl lx4_arities)), (q_4, .inl (cI, 258, .inl lx4_kinds)), (q_5, .inl (cI, 256, .inl lx4_slots))]) [0, 1, 2, 3, 4, 5] (by decide) rfl
  have hKc := hK.sub (tys' := [(cI, .int)]) [0] rfl
  have hFc := va_free (wc := [(h0, .inr (2, [.ref q_1, .ref q_2, .ref q_3, .ref q_4, .ref q_5, .int lx4_words, .int lx4_used])), (q_1, .inl (cI, 600, .inl lx4_letters)), (q_2, .inl (cI, 86, .inl lx4_starts)), (q_3, .inl (cI, 86, .inl lx4_arities)), (q_4, .inl (cI, 258, .inl lx4_kinds)), (q_5, .inl (cI, 256, .inl lx4_slots))]) hD hS hA [0, 1, 2, 3, 4, 5] rfl
  refine va_callv (va_runV (As := [.ref (adK 7)]) (rest := []) ⟨hx, hb, hml, hown, hts⟩ (c_Lexicon_load l dC dI H.size h0 q_1 q_2 q_3 q_4 q_5 lx4_words lx4_used lx4_letters lx4_starts lx4_arities lx4_kinds lx4_slots cI (adK 7) (adV 7) 114 (tw_bt 7) (lx_ld (lx_ld (lx_ld (lx_ld lx_0))))) (cwV 1 hts (tw_GV tw_cons cw_Lexicon_load lk_Lexicon_29 in_Lexicon_load sel_Lexicon_load ini_Lexicon) rfl rfl rfl (by decide +kernel) ⟨Nat.le_of_ble_eq_true rfl, Nat.le_of_ble_eq_true rfl⟩) ⟨fun a U g mk q => by obtain ⟨q0, q1, qP, qK, qD, qE0⟩ := q; exact ⟨q0, q1, qP, va_K.moved (u := U) (U := U.calling g mk a) (Vm.Alike.refl U.vm) qK, qD, tw_str.blind qE0⟩, va_recv hKc hPc (ci := 2) (q0 := 0) rfl rfl, fun U hU hW => ⟨rfl, by rw [hU], by rw [hU]; exact hPc, va_K.moved hW.alike hKc, hDc.weaken (fun _ _ _ _ => trivial), tw_str.pass (hE.str 7 (by decide)) hS hFc hW hU⟩⟩ rfl rfl hl.1 rfl (lv_room (Nat.le_of_ble_eq_true rfl)) d_Lexicon_init_74 ⟨Nat.le_of_ble_eq_true rfl, Nat.le_of_ble_eq_true rfl⟩) hS (fun q _ h => hFc q h) hFc (fun u9 t9 H1 locs ht hvm e9 hB hz1 hk1 hS => ?_)
  obtain ⟨hP1, hK1, hD1⟩ := hB
  rw [ht] at hP1
  obtain ⟨hP, hD⟩ := va_join (wr := []) (w1 := [(h0, .inr (2, [.ref q_1, .ref q_2, .ref q_3, .ref q_4, .ref q_5, .int (m_Lexicon_load_w0_5 lx4_words lx4_used lx4_letters lx4_starts lx4_arities lx4_kinds lx4_slots 114 (tw_bt 7)), .int (m_Lexicon_load_w0_6 lx4_words lx4_used lx4_letters lx4_starts lx4_arities lx4_kinds lx4_slots 114 (tw_bt 7))])), (q_1, .inl (cI, 600, .inl (m_Lexicon_load_w1 lx4_words lx4_used lx4_letters lx4_starts lx4_arities lx4_kinds lx4_slots 114 (tw_bt 7)))), (q_2, .inl (cI, 86, .inl (m_Lexicon_load_w2 lx4_words lx4_used lx4_letters lx4_starts lx4_arities lx4_kinds lx4_slots 114 (tw_bt 7)))), (q_3, .inl (cI, 86, .inl (m_Lexicon_load_w3 lx4_words lx4_used lx4_letters lx4_starts lx4_arities lx4_kinds lx4_slots 114 (tw_bt 7)))), (q_4, .inl (cI, 258, .inl (m_Lexicon_load_w4 lx4_words lx4_used lx4_letters lx4_starts lx4_arities lx4_kinds lx4_slots 114 (tw_bt 7)))), (q_5, .inl (cI, 256, .inl (m_Lexicon_load_w5 lx4_words lx4_used lx4_letters lx4_starts lx4_arities lx4_kinds lx4_slots 114 (tw_bt 7))))]) hP hD [0, 1, 2, 3, 4, 5] [] rfl rfl (by decide) (by decide) hk1 hFc hP1 hD1
  clear hP1 hD1 hK1 hvm hz1 hk1 hFc hKc hDc hPc
  subst ht
  generalize t9.heap = H at hP hS ⊢
  have hP : va_P (dC, dI) classes [(h0, .inr (2, [.ref q_1, .ref q_2, .ref q_3, .ref q_4, .ref q_5, .int lx5_words, .int lx5_used])), (q_1, .inl (cI, 600, .inl lx5_letters)), (q_2, .inl (cI, 86, .inl lx5_starts)), (q_3, .inl (cI, 86, .inl lx5_arities)), (q_4, .inl (cI, 258, .inl lx5_kinds)), (q_5, .inl (cI, 256, .inl lx5_slots))] H := hP
  have hD : va_D A [(h0, .inr (2, [.ref q_1, .ref q_2, .ref q_3, .ref q_4, .ref q_5, .int lx5_words, .int lx5_used])), (q_1, .inl (cI, 600, .inl lx5_letters)), (q_2, .inl (cI, 86, .inl lx5_starts)), (q_3, .inl (cI, 86, .inl lx5_arities)), (q_4, .inl (cI, 258, .inl lx5_kinds)), (q_5, .inl (cI, 256, .inl lx5_slots))] := hD
  refine lv_aload_n hx hb d_Lexicon_init_77 rfl (lv_at hl 0 rfl) ?_
  refine va_ldcS hx hb hown (show vk_R "TurtleWorld$Lexicon" 41 _ (adK 8) s from hE.ref 8 (by decide)) d_Lexicon_init_78 ?_
  have hPc := hP.sub (ws' := [(h0, .inr (2, [.ref q_1, .ref q_2, .ref q_3, .ref q_4, .ref q_5, .int lx5_words, .int lx5_used])), (q_1, .inl (cI, 600, .inl lx5_letters)), (q_2, .inl (cI, 86, .inl lx5_starts)), (q_3, .inl (cI, 86, .inl lx5_arities)), (q_4, .inl (cI, 258, .inl lx5_kinds)), (q_5, .inl (cI, 256, .inl lx5_slots))]) [0, 1, 2, 3, 4, 5] rfl
  have hDc := hD.sub (ws' := [(h0, .inr (2, [.ref q_1, .ref q_2, .ref q_3, .ref q_4, .ref q_5, .int lx5_words, .int lx5_used])), (q_1, .inl (cI, 600, .inl lx5_letters)), (q_2, .inl (cI, 86, .inl lx5_starts)), (q_3, .inl (cI, 86, .inl lx5_arities)), (q_4, .inl (cI, 258, .inl lx5_kinds)), (q_5, .inl (cI, 256, .inl lx5_slots))]) [0, 1, 2, 3, 4, 5] (by decide) rfl
  have hKc := hK.sub (tys' := [(cI, .int)]) [0] rfl
  have hFc := va_free (wc := [(h0, .inr (2, [.ref q_1, .ref q_2, .ref q_3, .ref q_4, .ref q_5, .int lx5_words, .int lx5_used])), (q_1, .inl (cI, 600, .inl lx5_letters)), (q_2, .inl (cI, 86, .inl lx5_starts)), (q_3, .inl (cI, 86, .inl lx5_arities)), (q_4, .inl (cI, 258, .inl lx5_kinds)), (q_5, .inl (cI, 256, .inl lx5_slots))]) hD hS hA [0, 1, 2, 3, 4, 5] rfl
  refine va_callv (va_runV (As := [.ref (adK 8)]) (rest := []) ⟨hx, hb, hml, hown, hts⟩ (c_Lexicon_load l dC dI H.size h0 q_1 q_2 q_3 q_4 q_5 lx5_words lx5_used lx5_letters lx5_starts lx5_arities lx5_kinds lx5_slots cI (adK 8) (adV 8) 24 (tw_bt 8) (lx_ld (lx_ld (lx_ld (lx_ld (lx_ld lx_0)))))) (cwV 1 hts (tw_GV tw_cons cw_Lexicon_load lk_Lexicon_29 in_Lexicon_load sel_Lexicon_load ini_Lexicon) rfl rfl rfl (by decide +kernel) ⟨Nat.le_of_ble_eq_true rfl, Nat.le_of_ble_eq_true rfl⟩) ⟨fun a U g mk q => by obtain ⟨q0, q1, qP, qK, qD, qE0⟩ := q; exact ⟨q0, q1, qP, va_K.moved (u := U) (U := U.calling g mk a) (Vm.Alike.refl U.vm) qK, qD, tw_str.blind qE0⟩, va_recv hKc hPc (ci := 2) (q0 := 0) rfl rfl, fun U hU hW => ⟨rfl, by rw [hU], by rw [hU]; exact hPc, va_K.moved hW.alike hKc, hDc.weaken (fun _ _ _ _ => trivial), tw_str.pass (hE.str 8 (by decide)) hS hFc hW hU⟩⟩ rfl rfl hl.1 rfl (lv_room (Nat.le_of_ble_eq_true rfl)) d_Lexicon_init_80 ⟨Nat.le_of_ble_eq_true rfl, Nat.le_of_ble_eq_true rfl⟩) hS (fun q _ h => hFc q h) hFc (fun u9 t9 H1 locs ht hvm e9 hB hz1 hk1 hS => ?_)
  obtain ⟨hP1, hK1, hD1⟩ := hB
  rw [ht] at hP1
  obtain ⟨hP, hD⟩ := va_join (wr := []) (w1 := [(h0, .inr (2, [.ref q_1, .ref q_2, .ref q_3, .ref q_4, .ref q_5, .int (m_Lexicon_load_w0_5 lx5_words lx5_used lx5_letters lx5_starts lx5_arities lx5_kinds lx5_slots 24 (tw_bt 8)), .int (m_Lexicon_load_w0_6 lx5_words lx5_used lx5_letters lx5_starts lx5_arities lx5_kinds lx5_slots 24 (tw_bt 8))])), (q_1, .inl (cI, 600, .inl (m_Lexicon_load_w1 lx5_words lx5_used lx5_letters lx5_starts lx5_arities lx5_kinds lx5_slots 24 (tw_bt 8)))), (q_2, .inl (cI, 86, .inl (m_Lexicon_load_w2 lx5_words lx5_used lx5_letters lx5_starts lx5_arities lx5_kinds lx5_slots 24 (tw_bt 8)))), (q_3, .inl (cI, 86, .inl (m_Lexicon_load_w3 lx5_words lx5_used lx5_letters lx5_starts lx5_arities lx5_kinds lx5_slots 24 (tw_bt 8)))), (q_4, .inl (cI, 258, .inl (m_Lexicon_load_w4 lx5_words lx5_used lx5_letters lx5_starts lx5_arities lx5_kinds lx5_slots 24 (tw_bt 8)))), (q_5, .inl (cI, 256, .inl (m_Lexicon_load_w5 lx5_words lx5_used lx5_letters lx5_starts lx5_arities lx5_kinds lx5_slots 24 (tw_bt 8))))]) hP hD [0, 1, 2, 3, 4, 5] [] rfl rfl (by decide) (by decide) hk1 hFc hP1 hD1
  clear hP1 hD1 hK1 hvm hz1 hk1 hFc hKc hDc hPc
  subst ht
  generalize t9.heap = H at hP hS ⊢
  have hP : va_P (dC, dI) classes [(h0, .inr (2, [.ref q_1, .ref q_2, .ref q_3, .ref q_4, .ref q_5, .int lx6_words, .int lx6_used])), (q_1, .inl (cI, 600, .inl lx6_letters)), (q_2, .inl (cI, 86, .inl lx6_starts)), (q_3, .inl (cI, 86, .inl lx6_arities)), (q_4, .inl (cI, 258, .inl lx6_kinds)), (q_5, .inl (cI, 256, .inl lx6_slots))] H := hP
  have hD : va_D A [(h0, .inr (2, [.ref q_1, .ref q_2, .ref q_3, .ref q_4, .ref q_5, .int lx6_words, .int lx6_used])), (q_1, .inl (cI, 600, .inl lx6_letters)), (q_2, .inl (cI, 86, .inl lx6_starts)), (q_3, .inl (cI, 86, .inl lx6_arities)), (q_4, .inl (cI, 258, .inl lx6_kinds)), (q_5, .inl (cI, 256, .inl lx6_slots))] := hD
  have hP9 := hP.sub (ws' := [(h0, .inr (2, [.ref q_1, .ref q_2, .ref q_3, .ref q_4, .ref q_5, .int lx6_words, .int lx6_used])), (q_1, .inl (cI, 600, .inl lx6_letters)), (q_2, .inl (cI, 86, .inl lx6_starts)), (q_3, .inl (cI, 86, .inl lx6_arities)), (q_4, .inl (cI, 258, .inl lx6_kinds)), (q_5, .inl (cI, 256, .inl lx6_slots))]) [0, 1, 2, 3, 4, 5] rfl
  have hD9 := hD.sub (ws' := [(h0, .inr (2, [.ref q_1, .ref q_2, .ref q_3, .ref q_4, .ref q_5, .int lx6_words, .int lx6_used])), (q_1, .inl (cI, 600, .inl lx6_letters)), (q_2, .inl (cI, 86, .inl lx6_starts)), (q_3, .inl (cI, 86, .inl lx6_arities)), (q_4, .inl (cI, 258, .inl lx6_kinds)), (q_5, .inl (cI, 256, .inl lx6_slots))]) [0, 1, 2, 3, 4, 5] (by decide) rfl
  refine W.widen (k := 5) (n := 1286) (Nat.le_of_ble_eq_true rfl) (Nat.le_of_ble_eq_true rfl) ?_
  exact W.vret hx hb hr (fun t9 ht hW => ⟨⟨(), rfl, trivial, q_1, q_2, q_3, q_4, q_5, by rw [ht]; exact hP9, va_K.moved hW.alike hK, hD9⟩, hS.F ht⟩) hS.2.2 d_Lexicon_init_83

theorem lx_6 : lx_ok lx6_words lx6_used lx6_starts lx6_arities lx6_slots := lx_ld (lx_ld (lx_ld (lx_ld (lx_ld (lx_ld lx_0)))))