theorem lk_Heap_90 : Cond.methodLink "TurtleWorld$Heap" 90 ⟨"java/lang/Math", "max", "(II)I"⟩ ∈ tw_T := tw_i1 166 (by decide +kernel) (by decide +kernel)
theorem hd_Math_max : y_Math_max.cls ≠ "java/lang/invoke/MethodHandle" ∧ y_Math_max.cls ≠ "java/lang/invoke/VarHandle" ∧ (parseMethodDescriptor y_Math_max.desc).map (fun d => d.parameters.length) = some 2 := by decide +kernel
theorem lk_Heap_94 : Cond.methodLink "TurtleWorld$Heap" 94 ⟨"java/lang/Math", "min", "(II)I"⟩ ∈ tw_T := tw_i1 167 (by decide +kernel) (by decide +kernel)
theorem hd_Math_min : y_Math_min.cls ≠ "java/lang/invoke/MethodHandle" ∧ y_Math_min.cls ≠ "java/lang/invoke/VarHandle" ∧ (parseMethodDescriptor y_Math_min.desc).map (fun d => d.parameters.length) = some 2 := by decide +kernel
theorem lk_Heap_96 : Cond.methodLink "TurtleWorld$Heap" 96 ⟨"java/util/Arrays", "copyOf", "([II)[I"⟩ ∈ tw_T := tw_i1 170 (by decide +kernel) (by decide +kernel)
theorem st_Arrays_copyOf : Cond.static ⟨"java/util/Arrays", "copyOf", "([II)[I"⟩ ∈ tw_T := tw_i1 171 (by decide +kernel) (by decide +kernel)
theorem d_Reader_blame_0 : decode b_Reader_blame 0 = .ok (.aload_n 0, 1) := by decide +kernel
theorem d_Reader_blame_1 : decode b_Reader_blame 1 = .ok (.getfield 51, 3) := by decide +kernel
theorem d_Reader_blame_4 : decode b_Reader_blame 4 = .ok (.ifCond .ne 13, 3) := by decide +kernel
theorem d_Reader_blame_7 : decode b_Reader_blame 7 = .ok (.aload_n 0, 1) := by decide +kernel
theorem d_Reader_blame_8 : decode b_Reader_blame 8 = .ok (.iload_n 1, 1) := by decide +kernel
theorem d_Reader_blame_9 : decode b_Reader_blame 9 = .ok (.putfield 51, 3) := by decide +kernel
theorem d_Reader_blame_12 : decode b_Reader_blame 12 = .ok (.aload_n 0, 1) := by decide +kernel
theorem d_Reader_blame_13 : decode b_Reader_blame 13 = .ok (.iload_n 2, 1) := by decide +kernel
theorem d_Reader_blame_14 : decode b_Reader_blame 14 = .ok (.putfield 90, 3) := by decide +kernel
theorem d_Reader_blame_17 : decode b_Reader_blame 17 = .ok (.return_, 1) := by decide +kernel
theorem lk_Reader_90 : Cond.fieldLink "TurtleWorld$Reader" 90 "TurtleWorld$Reader" "faultPlace" "I" ∈ tw_T := tw_i2 169 (by decide +kernel) (by decide +kernel)
theorem d_Reader_addMember_0 : decode b_Reader_addMember 0 = .ok (.aload_n 0, 1) := by decide +kernel
theorem d_Reader_addMember_1 : decode b_Reader_addMember 1 = .ok (.getfield 75, 3) := by decide +kernel
theorem d_Reader_addMember_4 : decode b_Reader_addMember 4 = .ok (.sipush 600, 3) := by decide +kernel
theorem d_Reader_addMember_7 : decode b_Reader_addMember 7 = .ok (.if_icmp .ge 23, 3) := by decide +kernel
theorem d_Reader_addMember_10 : decode b_Reader_addMember 10 = .ok (.aload_n 0, 1) := by decide +kernel
theorem d_Reader_addMember_11 : decode b_Reader_addMember 11 = .ok (.getfield 15, 3) := by decide +kernel
theorem d_Reader_addMember_14 : decode b_Reader_addMember 14 = .ok (.aload_n 0, 1) := by decide +kernel
theorem d_Reader_addMember_15 : decode b_Reader_addMember 15 = .ok (.getfield 75, 3) := by decide +kernel
theorem d_Reader_addMember_18 : decode b_Reader_addMember 18 = .ok (.iload_n 1, 1) := by decide +kernel
theorem d_Reader_addMember_19 : decode b_Reader_addMember 19 = .ok (.iastore, 1) := by decide +kernel
theorem d_Reader_addMember_20 : decode b_Reader_addMember 20 = .ok (.aload_n 0, 1) := by decide +kernel
theorem d_Reader_addMember_21 : decode b_Reader_addMember 21 = .ok (.dup, 1) := by decide +kernel
theorem d_Reader_addMember_22 : decode b_Reader_addMember 22 = .ok (.getfield 75, 3) := by decide +kernel
theorem d_Reader_addMember_25 : decode b_Reader_addMember 25 = .ok (.iconst 1, 1) := by decide +kernel
theorem d_Reader_addMember_26 : decode b_Reader_addMember 26 = .ok (.iadd, 1) := by decide +kernel
theorem d_Reader_addMember_27 : decode b_Reader_addMember 27 = .ok (.putfield 75, 3) := by decide +kernel
theorem d_Reader_addMember_30 : decode b_Reader_addMember 30 = .ok (.return_, 1) := by decide +kernel
theorem d_Heap_behindWord_0 : decode b_Heap_behindWord 0 = .ok (.iload_n 1, 1) := by decide +kernel
theorem d_Heap_behindWord_1 : decode b_Heap_behindWord 1 = .ok (.iconst 1, 1) := by decide +kernel
theorem d_Heap_behindWord_2 : decode b_Heap_behindWord 2 = .ok (.iadd, 1) := by decide +kernel
theorem d_Heap_behindWord_3 : decode b_Heap_behindWord 3 = .ok (.istore_n 2, 1) := by decide +kernel
theorem d_Heap_behindWord_4 : decode b_Heap_behindWord 4 = .ok (.iload_n 2, 1) := by decide +kernel
theorem d_Heap_behindWord_5 : decode b_Heap_behindWord 5 = .ok (.istore_n 3, 1) := by decide +kernel
theorem d_Heap_behindWord_6 : decode b_Heap_behindWord 6 = .ok (.iload_n 3, 1) := by decide +kernel
theorem d_Heap_behindWord_7 : decode b_Heap_behindWord 7 = .ok (.aload_n 0, 1) := by decide +kernel
theorem d_Heap_behindWord_8 : decode b_Heap_behindWord 8 = .ok (.getfield 153, 3) := by decide +kernel
theorem d_Heap_behindWord_11 : decode b_Heap_behindWord 11 = .ok (.if_icmp .ge 21, 3) := by decide +kernel
theorem d_Heap_behindWord_14 : decode b_Heap_behindWord 14 = .ok (.aload_n 0, 1) := by decide +kernel
theorem d_Heap_behindWord_15 : decode b_Heap_behindWord 15 = .ok (.getfield 15, 3) := by decide +kernel
theorem d_Heap_behindWord_18 : decode b_Heap_behindWord 18 = .ok (.iload_n 3, 1) := by decide +kernel
theorem d_Heap_behindWord_19 : decode b_Heap_behindWord 19 = .ok (.iaload, 1) := by decide +kernel
theorem d_Heap_behindWord_20 : decode b_Heap_behindWord 20 = .ok (.ifCond .eq 12, 3) := by decide +kernel
theorem d_Heap_behindWord_23 : decode b_Heap_behindWord 23 = .ok (.iinc 2 1, 3) := by decide +kernel
theorem d_Heap_behindWord_26 : decode b_Heap_behindWord 26 = .ok (.iinc 3 1, 3) := by decide +kernel
theorem d_Heap_behindWord_29 : decode b_Heap_behindWord 29 = .ok (.goto (-23), 3) := by decide +kernel
theorem d_Heap_behindWord_32 : decode b_Heap_behindWord 32 = .ok (.iload_n 2, 1) := by decide +kernel
theorem d_Heap_behindWord_33 : decode b_Heap_behindWord 33 = .ok (.iconst 1, 1) := by decide +kernel
theorem d_Heap_behindWord_34 : decode b_Heap_behindWord 34 = .ok (.iadd, 1) := by decide +kernel
theorem d_Heap_behindWord_35 : decode b_Heap_behindWord 35 = .ok (.ireturn, 1) := by decide +kernel
def m_Math_max (n : Nat) (v0 : Int32) (v1 : Int32) : Option (Int32) := if v0 < v1 then some v1 else some v0
set_option maxHeartbeats 4000000 in
set_option maxRecDepth 100000 in
theorem x_Math_max (l : Launch) (sz : Nat) (n : Nat) {v0 : Int32} {v1 : Int32} {r2 : Int32} (hm : m_Math_max n v0 v1 = some r2) : Met l y_Math_max w_Math_max ({ frames := 0, cells := 0, slots := 0, locals := 0 } : Room) (va_Pc [.int v0, .int v1] (xE0 sz)) (va_Qi (xR r2) xT (xN sz)) 0 0 (xN sz) := by
  refine mt_ofW (cc := b_Math_max) (maxL := 2) (ret := (some .int)) (by decide +kernel) rfl ?_
  intro p e s m args below meth c s₁ B hml hv
  obtain ⟨rfl, hsz⟩ := hv
  have hx := B.exec
  have hb := B.bytes
  have hr := B.returns
  have hts := atoms_spec (ws := w_Math_max) B.pre
  have htt : ∀ w ∈ tw_T, w.before _ s = true := fun w h => hts w (List.mem_cons_of_mem _ h)
  have hown : s.vm.findClass "java/lang/Math" = some m.cls := findClass_of_methodNamed B.named
  have hlocks := B.notSynchronized
  subst hsz
  generalize hAe : xN s.heap.size = A
  have hA : ∀ q : Nat, s.heap.size ≤ q → A q := fun q h => by rw [← hAe]; exact Or.inr h
  have hS : va_S A s.heap s.heap [] := va_S.rf
  have hl := lv_entry ([.int v0, .int v1]) (n := 2) (Nat.le_of_ble_eq_true rfl)
  rw [lg_entry_eq]
  generalize (lg_sl ([.int v0, .int v1]) ++ List.replicate (2 - (lg_sl ([.int v0, .int v1])).length) Slot.unset).toArray = ls at hl ⊢
  have hl : lv_has ls 2 [(0, .int v0), (1, .int v1)] := hl
  rw [m_Math_max] at hm
  refine lv_iload_n hx hb d_Math_max_0 rfl (lv_at hl 0 rfl) ?_
  refine lv_iload_n hx hb d_Math_max_1 rfl (lv_at hl 1 rfl) ?_
  refine lv_icmp_lt (tgt := 9) hx hb d_Math_max_2 (by decide) (fun c_1 => ?_) (fun c_1 => ?_)
  · replace hm := if_t c_1 hm
    refine lv_iload_n hx hb d_Math_max_9 rfl (lv_at hl 1 rfl) ?_
    have e3 := re1 hm
    exact W.iret hx hb hr (fun t9 ht hW => ⟨⟨_, (), rfl, e3.symm, trivial⟩, hS.F ht⟩) hS.2.2 d_Math_max_10
  · replace hm := if_f c_1 hm
    refine lv_iload_n hx hb d_Math_max_5 rfl (lv_at hl 0 rfl) ?_
    refine lv_goto (tgt := 10) hx hb d_Math_max_6 (by decide) ?_
    have e3 := re1 hm
    exact W.iret hx hb hr (fun t9 ht hW => ⟨⟨_, (), rfl, e3.symm, trivial⟩, hS.F ht⟩) hS.2.2 d_Math_max_10

def m_Math_min (n : Nat) (v0 : Int32) (v1 : Int32) : Option (Int32) := if v1 < v0 then some v1 else some v0
set_option maxHeartbeats 4000000 in
set_option maxRecDepth 100000 in
theorem x_Math_min (l : Launch) (sz : Nat) (n : Nat) {v0 : Int32} {v1 : Int32} {r2 : Int32} (hm : m_Math_min n v0 v1 = some r2) : Met l y_Math_min w_Math_min ({ frames := 0, cells := 0, slots := 0, locals := 0 } : Room) (va_Pc [.int v0, .int v1] (xE0 sz)) (va_Qi (xR r2) xT (xN sz)) 0 0 (xN sz) := by
  refine mt_ofW (cc := b_Math_min) (maxL := 2) (ret := (some .int)) (by decide +kernel) rfl ?_
  intro p e s m args below meth c s₁ B hml hv
  obtain ⟨rfl, hsz⟩ := hv
  have hx := B.exec
  have hb := B.bytes
  have hr := B.returns
  have hts := atoms_spec (ws := w_Math_min) B.pre
  have htt : ∀ w ∈ tw_T, w.before _ s = true := fun w h => hts w (List.mem_cons_of_mem _ h)
  have hown : s.vm.findClass "java/lang/Math" = some m.cls := findClass_of_methodNamed B.named
  have hlocks := B.notSynchronized
  subst hsz
  generalize hAe : xN s.heap.size = A
  have hA : ∀ q : Nat, s.heap.size ≤ q → A q := fun q h => by rw [← hAe]; exact Or.inr h
  have hS : va_S A s.heap s.heap [] := va_S.rf
  have hl := lv_entry ([.int v0, .int v1]) (n := 2) (Nat.le_of_ble_eq_true rfl)
  rw [lg_entry_eq]
  generalize (lg_sl ([.int v0, .int v1]) ++ List.replicate (2 - (lg_sl ([.int v0, .int v1])).length) Slot.unset).toArray = ls at hl ⊢
  have hl : lv_has ls 2 [(0, .int v0), (1, .int v1)] := hl
  rw [m_Math_min] at hm
  refine lv_iload_n hx hb d_Math_min_0 rfl (lv_at hl 0 rfl) ?_
  refine lv_iload_n hx hb d_Math_min_1 rfl (lv_at hl 1 rfl) ?_
  refine lv_icmp_gt (tgt := 9) hx hb d_Math_min_2 (by decide) (fun c_1 => ?_) (fun c_1 => ?_)
  · replace hm := if_t c_1 hm
    refine lv_iload_n hx hb d_Math_min_9 rfl (lv_at hl 1 rfl) ?_
    have e3 := re1 hm
    exact W.iret hx hb hr (fun t9 ht hW => ⟨⟨_, (), rfl, e3.symm, trivial⟩, hS.F ht⟩) hS.2.2 d_Math_min_10
  · replace hm := if_f c_1 hm
    refine lv_iload_n hx hb d_Math_min_5 rfl (lv_at hl 0 rfl) ?_
    refine lv_goto (tgt := 10) hx hb d_Math_min_6 (by decide) ?_
    have e3 := re1 hm
    exact W.iret hx hb hr (fun t9 ht hW => ⟨⟨_, (), rfl, e3.symm, trivial⟩, hS.F ht⟩) hS.2.2 d_Math_min_10

def m_Heap_reserve (n : Nat) (g : Nat → Nat) (i : Nat → Int32) (a : Nat → Nat → Int32) (v1 : Int32) : Option ((Nat → Int32) × (Nat → Nat → Int32) × (Nat → Nat) × (Nat × Nat) × Int32) := ob1 ((i 8) + v1 : Int32) (fun x_1 => if x_1 ≤ ((340000 : Int32)) then if x_1 ≤ ((nI (g 0))) then some (i, a, g, (0, 0), 1) else ob0 (m_Math_max n (2 * (nI (g 0))) x_1) (fun r_5 => ob0 (m_Math_min n (340000 : Int32) r_5) (fun r_9 => cg r_9 (m_Math_min_r (nI (g 0)) r_9) (g 0) (gw 1 r_9.toNatClampNeg (ob1 (updA a 0 (va_cpy (a 0) (fun _ => 0) 0 0 (m_Math_min_r (nI (g 0)) r_9).toNatClampNeg) : Nat → Nat → Int32) (fun a_17 => ob1 (updN g 0 r_9.toNatClampNeg : Nat → Nat) (fun g_18 => some (i, a_17, g_18, (0, 0), 1))))))) else some (i, a, g, (0, 0), 0))
set_option maxHeartbeats 4000000 in
set_option maxRecDepth 100000 in
theorem x_Heap_reserve (l : Launch) (dC : Nat → ClassId) (dI : Nat → Nat → Nat) (cI : ClassId) (adK adV adA u o g : Nat → Nat) (sz : Nat) (n : Nat) {i : Nat → Int32} {a : Nat → Nat → Int32} {v1 : Int32} {i2 : Nat → Int32} {a2 : Nat → Nat → Int32} {g2 : Nat → Nat} {k2 : Nat × Nat} {r2 : Int32} (hm : m_Heap_reserve n g i a v1 = some (i2, a2, g2, k2, r2)) : Met l y_Heap_reserve w_Heap_reserve ({ frames := 2, cells := k2.1, slots := k2.2, locals := 62 } : Room) (va_Pc [.ref ((u 1)), .int v1] (xE dC dI cI adK adV adA u o g i a sz)) (va_Qi (xRg r2) (xBg dC dI cI u g2 i2 a2 (va_A (TW cI u o i a g) sz)) (va_A (TW cI u o i a g) sz)) k2.1 k2.2 ((va_A (TW cI u o i a g) sz)) := by
  refine Met.ofW (cc := b_Heap_reserve) (maxL := 3) (ret := (some .boolean)) (by decide) rfl ?_
  intro p e s m args below meth c s₁ B hml hv
  obtain ⟨rfl, hsz, hP, hK, hE, hD0⟩ := hv
  have hx := B.exec
  have hb := B.bytes
  have hr := B.returns
  have hts := atoms_spec (ws := w_Heap_reserve) B.pre
  have htt : ∀ w ∈ tw_T, w.before _ s = true := fun w h => hts w (List.mem_cons_of_mem _ h)
  have hown : s.vm.findClass R_Heap = some m.cls := findClass_of_methodNamed B.named
  have hlocks := B.notSynchronized
  subst hsz
  have hD := hD0.self (sz := s.heap.size)
  generalize hAe : (va_A (TW cI u o i a g) s.heap.size) = A at hD hE ⊢
  have hA : ∀ q : Nat, s.heap.size ≤ q → A q := fun q h => by rw [← hAe]; exact Or.inr h
  have hS : va_S A s.heap s.heap [] := va_S.rf
  obtain ⟨mc, ms, emc, ems⟩ : ∃ mc ms : Nat, k2.1 = mc ∧ k2.2 = ms := ⟨_, _, rfl, rfl⟩
  have hkc : 0 + k2.1 = mc := by rw [Nat.zero_add]; exact emc
  have hks : 0 + k2.2 = ms := by rw [Nat.zero_add]; exact ems
  rw [emc, ems]
  clear emc ems
  have hl := lv_entry ([.ref ((u 1)), .int v1]) (n := 3) (Nat.le_of_ble_eq_true rfl)
  rw [lg_entry_eq]
  generalize (lg_sl ([.ref ((u 1)), .int v1]) ++ List.replicate (3 - (lg_sl ([.ref ((u 1)), .int v1])).length) Slot.unset).toArray = ls at hl ⊢
  have hl : lv_has ls 3 [(0, .ref ((u 1))), (1, .int v1)] := hl
  rw [m_Heap_reserve] at hm
  refine lv_aload_n hx hb d_Heap_reserve_0 rfl (lv_at hl 0 rfl) ?_
  refine va_get (D := (dC, dI)) (ci := 1) (v := .int (i 8)) (C := R_Heap) (T := F_Heap) (N := 12) hx hb htt iw_Heap hown hK hP 1 xo_1 rfl 7 (Nat.le_of_ble_eq_true rfl) (htt _ lk_Heap_18) (fun _ h9 => h9) xg_1_7 d_Heap_reserve_1 ?_
  refine lv_iload_n hx hb d_Heap_reserve_4 rfl (lv_at hl 1 rfl) ?_
  refine lv_iadd hx hb d_Heap_reserve_5 ?_
  refine lv_topi (fun x_1 ex_1 => ?_)
  replace hm := ob1_at ex_1 hm
  refine lv_istore_n (lv' := [(2, .int x_1), (0, .ref ((u 1))), (1, .int v1)]) hx hb d_Heap_reserve_6 rfl hl (by decide) rfl (fun ls hl => ?_)
  refine lv_iload_n hx hb d_Heap_reserve_7 rfl (lv_at hl 0 rfl) ?_
  refine lv_ldc (v := 340000) hx hb hown (htt _ lk_Heap_89) d_Heap_reserve_8 ?_
  refine lv_icmp_le (tgt := 15) hx hb d_Heap_reserve_10 (by decide) (fun c_2 => ?_) (fun c_2 => ?_)
  · replace hm := if_t c_2 hm
    refine lv_iload_n hx hb d_Heap_reserve_15 rfl (lv_at hl 0 rfl) ?_
    refine lv_aload_n hx hb d_Heap_reserve_16 rfl (lv_at hl 1 rfl) ?_
    refine va_get (D := (dC, dI)) (ci := 1) (v := .ref ((o 0))) (C := R_Heap) (T := F_Heap) (N := 12) hx hb htt iw_Heap hown hK hP 1 xo_1 rfl 5 (Nat.le_of_ble_eq_true rfl) (htt _ lk_Heap_11) (fun _ h9 => h9) xg_1_5 d_Heap_reserve_17 ?_
    refine va_alen (v := nI (g 0)) hx hb hK hP 12 0 twA_0 rfl rfl d_Heap_reserve_20 ?_
    refine lv_icmp_le (tgt := 51) hx hb d_Heap_reserve_21 (by decide) (fun c_3 => ?_) (fun c_3 => ?_)
    · replace hm := if_t c_3 hm
      refine lv_iconst (v := 1) hx hb d_Heap_reserve_51 (by decide) ?_
      obtain ⟨e1, e2, e4, e5, e6, e3⟩ := re5 hm
      obtain ⟨hP, hD⟩ := x_eqg e1 e2 e4 hP hD
      refine W.widen (k := mc) (n := ms) (show 0 ≤ mc by omega) (show 0 ≤ ms by omega) ?_
      exact W.zret hx hb hr (by decide) (fun t9 ht hW => ⟨⟨_, o, rfl, e3.symm, by rw [ht]; exact hP, hD⟩, hS.F ht⟩) hS.2.2 d_Heap_reserve_52
    · replace hm := if_f c_3 hm
      refine lv_aload_n hx hb d_Heap_reserve_24 rfl (lv_at hl 1 rfl) ?_
      refine lv_aload_n hx hb d_Heap_reserve_25 rfl (lv_at hl 1 rfl) ?_
      refine va_get (D := (dC, dI)) (ci := 1) (v := .ref ((o 0))) (C := R_Heap) (T := F_Heap) (N := 12) hx hb htt iw_Heap hown hK hP 1 xo_1 rfl 5 (Nat.le_of_ble_eq_true rfl) (htt _ lk_Heap_11) (fun _ h9 => h9) xg_1_5 d_Heap_reserve_26 ?_
      refine lv_ldc (v := 340000) hx hb hown (htt _ lk_Heap_89) d_Heap_reserve_29 ?_
      refine lv_iconst (v := 2) hx hb d_Heap_reserve_31 (by decide) ?_
      refine lv_aload_n hx hb d_Heap_reserve_32 rfl (lv_at hl 1 rfl) ?_
      refine va_get (D := (dC, dI)) (ci := 1) (v := .ref ((o 0))) (C := R_Heap) (T := F_Heap) (N := 12) hx hb htt iw_Heap hown hK hP 1 xo_1 rfl 5 (Nat.le_of_ble_eq_true rfl) (htt _ lk_Heap_11) (fun _ h9 => h9) xg_1_5 d_Heap_reserve_33 ?_
      refine va_alen (v := nI (g 0)) hx hb hK hP 12 0 twA_0 rfl rfl d_Heap_reserve_36 ?_
      refine lv_imul hx hb d_Heap_reserve_37 ?_
      refine lv_iload_n hx hb d_Heap_reserve_38 rfl (lv_at hl 0 rfl) ?_
      obtain ⟨r_5, h_4, hm⟩ := ob0_some hm
      have hFc := x_free0 hS hA
      refine xg_calli (va_runS (As := [.int (2 * (nI (g 0))), .int x_1]) (rest := [.int 340000, .ref ((o 0)), .ref ((u 1))]) ⟨hx, hb, hml, hown, hts⟩ (x_Math_max l s.heap.size n h_4) (va_cwS 2 hts (tw_GS tw_cons cw_Math_max lk_Heap_90 st_Math_max ini_Math) rfl rfl rfl hd_Math_max ⟨Nat.le_of_ble_eq_true rfl, Nat.le_of_ble_eq_true rfl⟩) xpS0 rfl rfl hl.1 rfl (lv_room (Nat.le_of_ble_eq_true rfl)) d_Heap_reserve_39 ⟨show 0 + 0 ≤ mc by omega, show 0 + 0 ≤ ms by omega⟩) hS (fun q _ h => hFc q h) hFc (fun kc_6 ks_7 r9 u9 t9 H locs ekc eks ht hvm e9 hB hz1 hk1 hS => ?_)
      replace hkc : kc_6 + k2.1 = mc := by omega
      replace hks : ks_7 + k2.2 = ms := by omega
      clear ekc eks
      have e9 : r_5 = r9 := e9
      subst e9
      replace hP := x_keep hP hk1
      clear hFc hk1 hz1 hvm hB ht
      obtain ⟨r_9, h_8, hm⟩ := ob0_some hm
      have hFc := x_free0 hS hA
      refine xg_calli (va_runS (As := [.int 340000, .int r_5]) (rest := [.ref ((o 0)), .ref ((u 1))]) ⟨hx, hb, hml, hown, hts⟩ (x_Math_min l H.size n h_8) (va_cwS 2 hts (tw_GS tw_cons cw_Math_min lk_Heap_94 st_Math_min ini_Math) rfl rfl rfl hd_Math_min ⟨Nat.le_of_ble_eq_true rfl, Nat.le_of_ble_eq_true rfl⟩) xpS0 rfl rfl hl.1 rfl (lv_room (Nat.le_of_ble_eq_true rfl)) d_Heap_reserve_42 ⟨show kc_6 + 0 ≤ mc by omega, show ks_7 + 0 ≤ ms by omega⟩) hS (fun q _ h => hFc q h) hFc (fun kc_10 ks_11 r9 u9 t9 H locs ekc eks ht hvm e9 hB hz1 hk1 hS => ?_)
      replace hkc : kc_10 + k2.1 = mc := by omega
      replace hks : ks_11 + k2.2 = ms := by omega
      clear ekc eks
      have e9 : r_9 = r9 := e9
      subst e9
      replace hP := x_keep hP hk1
      clear hFc hk1 hz1 hvm hB ht
      obtain ⟨h_12n, h_12a, h_12b, h_12c, h_12d, h_12e, hm⟩ := cg_some hm
      obtain ⟨k_13, hm, e7, e8⟩ := gw_some hm
      have hPc := hP.sub (ws' := [(o 0, .inl (cI, (g 0), .inl (a 0)))]) [12] rfl
      have hDc := hD.sub (ws' := [(o 0, .inl (cI, (g 0), .inl (a 0)))]) [12] (by decide) rfl
      have hFc := va_free (wc := [(o 0, .inl (cI, (g 0), .inl (a 0)))]) hD hS hA [12] rfl
      refine va_callr (va_runS (As := [.ref (o 0), .int r_9]) (rest := [.ref (u 1)]) ⟨hx, hb, hml, hown, hts⟩ (c_Arrays_copyOf l dC dI H.size (o 0) cI (g 0) (a 0) r_9 h_12n h_12a h_12b h_12c h_12d h_12e) (va_cwS 2 hts (tw_GS tw_cons cw_Arrays_copyOf lk_Heap_96 st_Arrays_copyOf ini_Arrays) rfl rfl rfl (by decide +kernel) ⟨Nat.le_of_ble_eq_true rfl, Nat.le_of_ble_eq_true rfl⟩) ⟨fun a U g mk q => by obtain ⟨q0, q1, qP, qK, qD⟩ := q; exact ⟨q0, q1, qP, va_K.moved (u := U) (U := U.calling g mk a) (Vm.Alike.refl U.vm) qK, qD⟩, fun U hU hW => ⟨rfl, by rw [hU], by rw [hU]; exact hPc, va_K.moved hW.alike hK, hDc.weaken (fun _ _ _ _ => trivial)⟩⟩ rfl rfl hl.1 rfl (lv_room (Nat.le_of_ble_eq_true rfl)) d_Heap_reserve_45 ⟨show kc_10 + 1 ≤ mc by omega, show ks_11 + r_9.toNatClampNeg ≤ ms by omega⟩) hS (fun q _ h => hFc q h) hFc (fun u9 q_16 t9 H locs ht hvm e9 hB hz1 hk1 hS => ?_)
      obtain ⟨kc_14, ekc⟩ : ∃ y9 : Nat, y9 = kc_10 + 1 := ⟨_, rfl⟩
      obtain ⟨ks_15, eks⟩ : ∃ y9 : Nat, y9 = ks_11 + r_9.toNatClampNeg := ⟨_, rfl⟩
      rw [← ekc, ← eks]
      replace hkc : kc_14 + k_13.1 = mc := by omega
      replace hks : ks_15 + k_13.2 = ms := by omega
      obtain ⟨hP1, hK1, hD1⟩ := hB
      rw [ht] at hP1
      obtain ⟨hP, hD⟩ := va_join (wr := [(u 0, .inr (0, xf_0 u o i)), (u 1, .inr (1, xf_1 u o i)), (u 2, .inr (2, xf_2 u o i)), (u 3, .inr (3, xf_3 u o i)), (u 4, .inr (4, xf_4 u o i)), (u 5, .inr (5, xf_5 u o i)), (u 6, .inr (6, xf_6 u o i)), (u 7, .inr (7, xf_7 u o i)), (u 8, .inr (8, xf_8 u o i)), (u 9, .inr (9, xf_9 u o i)), (u 10, .inr (10, xf_10 u o i)), (u 11, .inr (11, xf_11 u o i)), (o 1, .inl (cI, (g 1), .inl (a 1))), (u 12, .inl (cI, 700, .inl (a 2))), (u 13, .inl (cI, 700, .inl (a 3))), (u 14, .inl (cI, 700, .inl (a 4))), (u 15, .inl (cI, 600, .inl (a 5))), (u 16, .inl (cI, 86, .inl (a 6))), (u 17, .inl (cI, 86, .inl (a 7))), (u 18, .inl (cI, 258, .inl (a 8))), (u 19, .inl (cI, 256, .inl (a 9))), (u 20, .inl (cI, 64, .inl (a 10))), (u 21, .inl (cI, 64, .inl (a 11))), (u 22, .inl (cI, 1800, .inl (a 12))), (u 23, .inl (cI, 1800, .inl (a 13))), (u 24, .inl (cI, 64, .inl (a 14))), (u 25, .inl (cI, 40, .inl (a 15))), (u 26, .inl (cI, 40, .inl (a 16))), (u 27, .inl (cI, 40, .inl (a 17))), (u 28, .inl (cI, 40, .inl (a 18))), (u 29, .inl (cI, 40, .inl (a 19))), (u 30, .inl (cI, 56, .inl (a 20))), (u 31, .inl (cI, 4096, .inl (a 21))), (u 32, .inl (cI, 4, .inl (a 22))), (u 33, .inl (cI, 4, .inl (a 23))), (u 34, .inl (cI, 56, .inl (a 24))), (u 35, .inl (cI, 4096, .inl (a 25))), (u 36, .inl (cI, 2000, .inl (a 26))), (u 37, .inl (cI, 2000, .inl (a 27))), (u 38, .inl (cI, 8192, .inl (a 28))), (u 39, .inl (cI, 700, .inl (a 29))), (u 40, .inl (cI, 700, .inl (a 30))), (u 41, .inl (cI, 4000, .inl (a 31))), (u 42, .inl (cI, 600, .inl (a 32))), (u 43, .inl (cI, 20, .inl (a 33))), (u 44, .inl (cI, 200, .inl (a 34))), (u 45, .inl (cI, 200, .inl (a 35))), (u 46, .inl (cI, 200, .inl (a 36))), (u 47, .inl (cI, 150, .inl (a 37))), (u 48, .inl (cI, 150, .inl (a 38))), (u 49, .inl (cI, 150, .inl (a 39))), (u 50, .inl (cI, 150, .inl (a 40))), (u 51, .inl (cI, 150, .inl (a 41))), (u 52, .inl (cI, 150, .inl (a 42))), (u 53, .inl (cI, 150, .inl (a 43))), (u 54, .inl (cI, 150, .inl (a 44))), (u 55, .inl (cI, 150, .inl (a 45))), (u 56, .inl (cI, 150, .inl (a 46))), (u 57, .inl (cI, 401, .inl (a 47))), (u 58, .inl (cI, 401, .inl (a 48))), (u 59, .inl (cI, 401, .inl (a 49))), (u 60, .inl (cI, 401, .inl (a 50))), (u 61, .inl (cI, 401, .inl (a 51))), (u 62, .inl (cI, 401, .inl (a 52))), (u 63, .inl (cI, 401, .inl (a 53))), (u 64, .inl (cI, 32000, .inl (a 54)))]) (w1 := [(o 0, .inl (cI, (g 0), .inl (a 0))), (q_16, .inl (cI, r_9.toNatClampNeg, .inl (va_cpy (a 0) (fun _ => 0) 0 0 (m_Math_min_r (nI (g 0)) r_9).toNatClampNeg)))]) hP hD [12] [0, 1, 2, 3, 4, 5, 6, 7, 8, 9, 10, 11, 13, 14, 15, 16, 17, 18, 19, 20, 21, 22, 23, 24, 25, 26, 27, 28, 29, 30, 31, 32, 33, 34, 35, 36, 37, 38, 39, 40, 41, 42, 43, 44, 45, 46, 47, 48, 49, 50, 51, 52, 53, 54, 55, 56, 57, 58, 59, 60, 61, 62, 63, 64, 65, 66] rfl rfl (by decide) (by decide) hk1 hFc hP1 hD1
      clear hP1 hD1 hK1 hvm hz1 hk1 hFc hDc hPc ht ekc eks e7 e8
      refine va_put (D := (dC, dI)) (ci := 1) (v := .ref q_16) (ty := .array .int) (C := R_Heap) (T := F_Heap) (N := 12) hx hb htt iw_Heap t_Heap t_Heap_ok n_Heap hown hK hP hD hS 1 rfl rfl 5 (Nat.le_of_ble_eq_true rfl) (htt _ lk_Heap_11) (fun _ h9 => h9) rfl (by decide +kernel) rfl rfl (Nat.le_of_ble_eq_true rfl) d_Heap_reserve_48 (fun H locs hP hD hS => ?_)
      obtain ⟨a_17, ea_17⟩ : ∃ y9 : Nat → Nat → Int32, y9 = updA a 0 (va_cpy (a 0) (fun _ => 0) 0 0 (m_Math_min_r (nI (g 0)) r_9).toNatClampNeg) := ⟨_, rfl⟩
      replace hm := ob1_at ea_17 hm
      obtain ⟨g_18, eg_18⟩ : ∃ y9 : Nat → Nat, y9 = updN g 0 r_9.toNatClampNeg := ⟨_, rfl⟩
      replace hm := ob1_at eg_18 hm
      replace hP := hP.sub (ws' := TW cI u (updN o 0 q_16) i (updA a 0 (va_cpy (a 0) (fun _ => 0) 0 0 (m_Math_min_r (nI (g 0)) r_9).toNatClampNeg)) (updN g 0 r_9.toNatClampNeg)) [0, 1, 2, 3, 4, 5, 6, 7, 8, 9, 10, 11, 67, 12, 13, 14, 15, 16, 17, 18, 19, 20, 21, 22, 23, 24, 25, 26, 27, 28, 29, 30, 31, 32, 33, 34, 35, 36, 37, 38, 39, 40, 41, 42, 43, 44, 45, 46, 47, 48, 49, 50, 51, 52, 53, 54, 55, 56, 57, 58, 59, 60, 61, 62, 63, 64, 65] rfl
      replace hD := hD.sub (ws' := TW cI u (updN o 0 q_16) i (updA a 0 (va_cpy (a 0) (fun _ => 0) 0 0 (m_Math_min_r (nI (g 0)) r_9).toNatClampNeg)) (updN g 0 r_9.toNatClampNeg)) [0, 1, 2, 3, 4, 5, 6, 7, 8, 9, 10, 11, 67, 12, 13, 14, 15, 16, 17, 18, 19, 20, 21, 22, 23, 24, 25, 26, 27, 28, 29, 30, 31, 32, 33, 34, 35, 36, 37, 38, 39, 40, 41, 42, 43, 44, 45, 46, 47, 48, 49, 50, 51, 52, 53, 54, 55, 56, 57, 58, 59, 60, 61, 62, 63, 64, 65] (by decide) rfl
      rw [← ea_17, ← eg_18] at hP hD
      generalize updN o 0 q_16 = o_19 at hP hD
      refine lv_iconst (v := 1) hx hb d_Heap_reserve_51 (by decide) ?_
      obtain ⟨e1, e2, e4, e5, e6, e3⟩ := re5 hm
      obtain ⟨hP, hD⟩ := x_eqg e1 e2 e4 hP hD
      refine W.widen (k := mc) (n := ms) (show kc_14 ≤ mc by omega) (show ks_15 ≤ ms by omega) ?_
      exact W.zret hx hb hr (by decide) (fun t9 ht hW => ⟨⟨_, o_19, rfl, e3.symm, by rw [ht]; exact hP, hD⟩, hS.F ht⟩) hS.2.2 d_Heap_reserve_52
  · replace hm := if_f c_2 hm
    refine lv_iconst (v := 0) hx hb d_Heap_reserve_13 (by decide) ?_
    obtain ⟨e1, e2, e4, e5, e6, e3⟩ := re5 hm
    obtain ⟨hP, hD⟩ := x_eqg e1 e2 e4 hP hD
    refine W.widen (k := mc) (n := ms) (show 0 ≤ mc by omega) (show 0 ≤ ms by omega) ?_
    exact W.zret hx hb hr (by decide) (fun t9 ht hW => ⟨⟨_, o, rfl, e3.symm, by rw [ht]; exact hP, hD⟩, hS.F ht⟩) hS.2.2 d_Heap_reserve_14

def m_Reader_hasRoom (n : Nat) (g : Nat → Nat) (i : Nat → Int32) (a : Nat → Nat → Int32)  : Option (Int32) := if ((4000 : Int32)) < (((i 24) + 20)) then some 0 else some 1
set_option maxHeartbeats 4000000 in
set_option maxRecDepth 100000 in
theorem x_Reader_hasRoom (l : Launch) (dC : Nat → ClassId) (dI : Nat → Nat → Nat) (cI : ClassId) (adK adV adA u o g : Nat → Nat) (sz : Nat) (n : Nat) {i : Nat → Int32} {a : Nat → Nat → Int32}  {r2 : Int32} (hm : m_Reader_hasRoom n g i a = some r2) : Met l y_Reader_hasRoom w_Reader_hasRoom ({ frames := 0, cells := 0, slots := 0, locals := 0 } : Room) (va_Pc [.ref ((u 7))] (xEr dC dI cI adK adV adA u o g i a sz)) (va_Qi (xR r2) xT (xN sz)) 0 0 (xN sz) := by
  refine Met.ofW (cc := b_Reader_hasRoom) (maxL := 1) (ret := (some .boolean)) (by decide) rfl ?_
  intro p e s m args below meth c s₁ B hml hv
  obtain ⟨rfl, hsz, hP, hK, hE⟩ := hv
  have hx := B.exec
  have hb := B.bytes
  have hr := B.returns
  have hts := atoms_spec (ws := w_Reader_hasRoom) B.pre
  have htt : ∀ w ∈ tw_T, w.before _ s = true := fun w h => hts w (List.mem_cons_of_mem _ h)
  have hown : s.vm.findClass R_Reader = some m.cls := findClass_of_methodNamed B.named
  have hlocks := B.notSynchronized
  subst hsz
  generalize hAe : xN s.heap.size = A at hE ⊢
  have hA : ∀ q : Nat, s.heap.size ≤ q → A q := fun q h => by rw [← hAe]; exact Or.inr h
  have hS : va_S A s.heap s.heap [] := va_S.rf
  have hl := lv_entry ([.ref ((u 7))]) (n := 1) (Nat.le_of_ble_eq_true rfl)
  rw [lg_entry_eq]
  generalize (lg_sl ([.ref ((u 7))]) ++ List.replicate (1 - (lg_sl ([.ref ((u 7))])).length) Slot.unset).toArray = ls at hl ⊢
  have hl : lv_has ls 1 [(0, .ref ((u 7)))] := hl
  rw [m_Reader_hasRoom] at hm
  refine lv_aload_n hx hb d_Reader_hasRoom_0 rfl (lv_at hl 0 rfl) ?_
  refine va_get (D := (dC, dI)) (ci := 7) (v := .int (i 24)) (C := R_Reader) (T := F_Reader) (N := 19) hx hb htt iw_Reader hown hK hP 7 xo_7 rfl 3 (Nat.le_of_ble_eq_true rfl) (htt _ lk_Reader_38) (fun _ h9 => h9) xg_7_3 d_Reader_hasRoom_1 ?_
  refine lv_bipush (v := 20) hx hb d_Reader_hasRoom_4 (by decide) ?_
  refine lv_iadd hx hb d_Reader_hasRoom_6 ?_
  refine lv_sipush (v := 4000) hx hb d_Reader_hasRoom_7 (by decide) ?_
  refine lv_icmp_gt (tgt := 17) hx hb d_Reader_hasRoom_10 (by decide) (fun c_1 => ?_) (fun c_1 => ?_)
  · replace hm := if_t c_1 hm
    refine lv_iconst (v := 0) hx hb d_Reader_hasRoom_17 (by decide) ?_
    have e3 := re1 hm
    exact W.zret hx hb hr (by decide) (fun t9 ht hW => ⟨⟨_, (), rfl, e3.symm, trivial⟩, hS.F ht⟩) hS.2.2 d_Reader_hasRoom_18
  · replace hm := if_f c_1 hm
    refine lv_iconst (v := 1) hx hb d_Reader_hasRoom_13 (by decide) ?_
    refine lv_goto (tgt := 18) hx hb d_Reader_hasRoom_14 (by decide) ?_
    have e3 := re1 hm
    exact W.zret hx hb hr (by decide) (fun t9 ht hW => ⟨⟨_, (), rfl, e3.symm, trivial⟩, hS.F ht⟩) hS.2.2 d_Reader_hasRoom_18

def m_Reader_addBytes_b3 (n : Nat) (g : Nat → Nat) : Nat → (Nat → Int32) → (Nat → Nat → Int32) → Int32 → Int32 → Option ((Nat → Int32) × (Nat → Nat → Int32) × Int32)
  | 0, _, _, _, _ => none
  | f + 1, i, a, v1, v2 => if v2 < ((0 : Int32)) then some (i, a, (0 : Int32)) else if ((4000 : Int32)) ≤ ((i 24)) then some (i, a, (0 : Int32)) else ck ((i 24)) 4000 (ob1 (sv a 31 (i 24).toNatClampNeg (((v1.toUInt32 >>> (v2.toUInt32 &&& Int32.toUInt32 31)).toInt32) &&& 255) : Nat → Nat → Int32) (fun a_4 => ob1 ((i 24) + 1 : Int32) (fun x_5 => ob1 (upd i 24 x_5 : Nat → Int32) (fun i_6 => ob1 (v2 + (-8) : Int32) (fun x_7 => m_Reader_addBytes_b3 n g f i_6 a_4 v1 x_7)))))
set_option maxHeartbeats 4000000 in
set_option maxRecDepth 100000 in
theorem lb_Reader_addBytes_3 (l : Launch) (dC : Nat → ClassId) (dI : Nat → Nat → Nat) (cI : ClassId) (adK adV adA u o g : Nat → Nat) (n : Nat) {p : Program} {e : Env} {s : State} {m : MethodId} {args : Array Value} {below : List Frame} {meth : Method} {c : Code} {A : Nat → Prop} (hx : p.tables.exec = Jvm.exec) (hb : c.code = b_Reader_addBytes) (hml : c.maxLocals = 3) (hown : s.vm.findClass R_Reader = some m.cls) (hts : ∀ w ∈ w_Reader_addBytes, w.before args s = true) (hK : va_K (dC, dI) classes [(cI, .int)] s) (hE : tw_E adK adV adA A s s.heap) (hA : ∀ q : Nat, s.heap.size ≤ q → A q) (hr : meth.sig.returnType = none) (hlocks : meth.locks = false) {i2 : Nat → Int32} {a2 : Nat → Nat → Int32} {r2 : Int32} : ∀ (f : Nat) (i : Nat → Int32) (a : Nat → Nat → Int32) (v1 : Int32) (v2 : Int32), m_Reader_addBytes_b3 n g f i a v1 v2 = some (i2, a2, r2) → ∀ (H : Heap) (locs : List Loc) (ls : Array Slot), va_P (dC, dI) classes (TW cI u o i a g) H → va_D A (TW cI u o i a g) → va_S A s.heap H locs → lv_has ls 3 [(0, .ref ((u 7))), (1, .int v1), (2, .int v2)] → W p l e ({ frames := 0, cells := 0, slots := 0, locals := 0 } : Room) s m args below meth c H locs 0 0 (MQ below (va_Qv xV (xB dC dI cI u o g i2 a2 A) A) args s 0 0 A) (F0 m 3 ls []) := by
  have htt : ∀ w ∈ tw_T, w.before _ s = true := fun w h => hts w (List.mem_cons_of_mem _ h)
  intro f
  induction f with
  | zero =>
    intro i a v1 v2 hm
    rw [m_Reader_addBytes_b3] at hm
    cases hm
  | succ f ih =>
    intro i a v1 v2 hm H locs ls hP hD hS hl
    rw [m_Reader_addBytes_b3] at hm
    refine lv_iload_n hx hb d_Reader_addBytes_3 rfl (lv_at hl 2 rfl) ?_
    refine lv_if_lt (tgt := 49) hx hb d_Reader_addBytes_4 (by decide) (fun c_1 => ?_) (fun c_1 => ?_)
    · replace hm := if_t c_1 hm
      obtain ⟨e1i, e1a, e3⟩ := re3 hm
      obtain ⟨hP, hD⟩ := x_eq e1i e1a hP hD
      exact W.vret hx hb hr (fun t9 ht hW => ⟨⟨(), rfl, trivial, by rw [ht]; exact hP, hD⟩, hS.F ht⟩) hS.2.2 d_Reader_addBytes_49
    · replace hm := if_f c_1 hm
      refine lv_aload_n hx hb d_Reader_addBytes_7 rfl (lv_at hl 0 rfl) ?_
      refine va_get (D := (dC, dI)) (ci := 7) (v := .int (i 24)) (C := R_Reader) (T := F_Reader) (N := 19) hx hb htt iw_Reader hown hK hP 7 xo_7 rfl 3 (Nat.le_of_ble_eq_true rfl) (htt _ lk_Reader_38) (fun _ h9 => h9) xg_7_3 d_Reader_addBytes_8 ?_
      refine lv_sipush (v := 4000) hx hb d_Reader_addBytes_11 (by decide) ?_
      refine lv_icmp_ge (tgt := 49) hx hb d_Reader_addBytes_14 (by decide) (fun c_2 => ?_) (fun c_2 => ?_)
      · replace hm := if_t c_2 hm
        obtain ⟨e1i, e1a, e3⟩ := re3 hm
        obtain ⟨hP, hD⟩ := x_eq e1i e1a hP hD
        exact W.vret hx hb hr (fun t9 ht hW => ⟨⟨(), rfl, trivial, by rw [ht]; exact hP, hD⟩, hS.F ht⟩) hS.2.2 d_Reader_addBytes_49
      · replace hm := if_f c_2 hm
        refine lv_aload_n hx hb d_Reader_addBytes_17 rfl (lv_at hl 0 rfl) ?_
        refine va_get (D := (dC, dI)) (ci := 7) (v := .ref ((u 41))) (C := R_Reader) (T := F_Reader) (N := 19) hx hb htt iw_Reader hown hK hP 7 xo_7 rfl 2 (Nat.le_of_ble_eq_true rfl) (htt _ lk_Reader_11) (fun _ h9 => h9) xg_7_2 d_Reader_addBytes_18 ?_
        refine lv_aload_n hx hb d_Reader_addBytes_21 rfl (lv_at hl 0 rfl) ?_
        refine va_get (D := (dC, dI)) (ci := 7) (v := .int (i 24)) (C := R_Reader) (T := F_Reader) (N := 19) hx hb htt iw_Reader hown hK hP 7 xo_7 rfl 3 (Nat.le_of_ble_eq_true rfl) (htt _ lk_Reader_38) (fun _ h9 => h9) xg_7_3 d_Reader_addBytes_22 ?_
        refine lv_iload_n hx hb d_Reader_addBytes_25 rfl (lv_at hl 1 rfl) ?_
        refine lv_iload_n hx hb d_Reader_addBytes_26 rfl (lv_at hl 2 rfl) ?_
        refine lv_iushr hx hb d_Reader_addBytes_27 rfl ?_
        refine lv_sipush (v := 255) hx hb d_Reader_addBytes_28 (by decide) ?_
        refine lv_iand hx hb d_Reader_addBytes_31 ?_
        obtain ⟨h_3, hm⟩ := ck_some hm
        refine va_iast hx hb hK hP hD hS 43 0 twA_31 rfl h_3 d_Reader_addBytes_32 (fun H locs hP hD hS => ?_)
        obtain ⟨a_4, ea_4⟩ : ∃ y9 : Nat → Nat → Int32, y9 = sv a 31 (i 24).toNatClampNeg (((v1.toUInt32 >>> (v2.toUInt32 &&& Int32.toUInt32 31)).toInt32) &&& 255) := ⟨_, rfl⟩
        replace hm := ob1_at ea_4 hm
        obtain ⟨hP, hD⟩ := xv_31 ea_4 hP hD
        refine lv_aload_n hx hb d_Reader_addBytes_33 rfl (lv_at hl 0 rfl) ?_
        refine lv_dup hx hb d_Reader_addBytes_34 rfl ?_
        refine va_get (D := (dC, dI)) (ci := 7) (v := .int (i 24)) (C := R_Reader) (T := F_Reader) (N := 19) hx hb htt iw_Reader hown hK hP 7 xo_7 rfl 3 (Nat.le_of_ble_eq_true rfl) (htt _ lk_Reader_38) (fun _ h9 => h9) xg_7_3 d_Reader_addBytes_35 ?_
        refine lv_iconst (v := 1) hx hb d_Reader_addBytes_38 (by decide) ?_
        refine lv_iadd hx hb d_Reader_addBytes_39 ?_
        refine lv_topi (fun x_5 ex_5 => ?_)
        replace hm := ob1_at ex_5 hm
        refine va_put (D := (dC, dI)) (ci := 7) (v := .int x_5) (ty := .int) (C := R_Reader) (T := F_Reader) (N := 19) hx hb htt iw_Reader t_Reader t_Reader_ok n_Reader hown hK hP hD hS 7 xo_7 rfl 3 (Nat.le_of_ble_eq_true rfl) (htt _ lk_Reader_38) (fun _ h9 => h9) rfl (by decide +kernel) rfl rfl xl_7_3 d_Reader_addBytes_40 (fun H locs hP hD hS => ?_)
        obtain ⟨i_6, ei_6⟩ : ∃ y9 : Nat → Int32, y9 = upd i 24 x_5 := ⟨_, rfl⟩
        replace hm := ob1_at ei_6 hm
        obtain ⟨hP, hD⟩ := xw_24 ei_6 hP hD
        obtain ⟨x_7, ex_7⟩ : ∃ y9 : Int32, y9 = v2 + (-8) := ⟨_, rfl⟩
        replace hm := ob1_at ex_7 hm
        refine lv_iinc (v := x_7) (lv' := [(2, .int x_7), (0, .ref ((u 7))), (1, .int v1)]) hx hb d_Reader_addBytes_43 hl (k := 2) rfl (by rw [ex_7]; rfl) (by decide) rfl (fun ls hl => ?_)
        refine lv_goto (tgt := 3) hx hb d_Reader_addBytes_46 (by decide) ?_
        exact ih _ _ _ _ hm _ _ _ hP hD hS (lv_sub hl [1, 2, 0] rfl)
def m_Reader_addBytes (n : Nat) (g : Nat → Nat) (i : Nat → Int32) (a : Nat → Nat → Int32) (v1 : Int32) : Option ((Nat → Int32) × (Nat → Nat → Int32) × Int32) := m_Reader_addBytes_b3 n g n i a v1 (24 : Int32)
set_option maxHeartbeats 4000000 in
set_option maxRecDepth 100000 in
theorem x_Reader_addBytes (l : Launch) (dC : Nat → ClassId) (dI : Nat → Nat → Nat) (cI : ClassId) (adK adV adA u o g : Nat → Nat) (sz : Nat) (n : Nat) {i : Nat → Int32} {a : Nat → Nat → Int32} {v1 : Int32} {i2 : Nat → Int32} {a2 : Nat → Nat → Int32} {r2 : Int32} (hm : m_Reader_addBytes n g i a v1 = some (i2, a2, r2)) : Met l y_Reader_addBytes w_Reader_addBytes ({ frames := 0, cells := 0, slots := 0, locals := 0 } : Room) (va_Pc [.ref ((u 7)), .int v1] (xE dC dI cI adK adV adA u o g i a sz)) (va_Qv xV (xB dC dI cI u o g i2 a2 (va_A (TW cI u o i a g) sz)) (va_A (TW cI u o i a g) sz)) 0 0 ((va_A (TW cI u o i a g) sz)) := by
  refine Met.ofW (cc := b_Reader_addBytes) (maxL := 3) (ret := none) (by decide) rfl ?_
  intro p e s m args below meth c s₁ B hml hv
  obtain ⟨rfl, hsz, hP, hK, hE, hD0⟩ := hv
  have hx := B.exec
  have hb := B.bytes
  have hr := B.returns
  have hts := atoms_spec (ws := w_Reader_addBytes) B.pre
  have htt : ∀ w ∈ tw_T, w.before _ s = true := fun w h => hts w (List.mem_cons_of_mem _ h)
  have hown : s.vm.findClass R_Reader = some m.cls := findClass_of_methodNamed B.named
  have hlocks := B.notSynchronized
  subst hsz
  have hD := hD0.self (sz := s.heap.size)
  generalize hAe : (va_A (TW cI u o i a g) s.heap.size) = A at hD hE ⊢
  have hA : ∀ q : Nat, s.heap.size ≤ q → A q := fun q h => by rw [← hAe]; exact Or.inr h
  have hS : va_S A s.heap s.heap [] := va_S.rf
  have hl := lv_entry ([.ref ((u 7)), .int v1]) (n := 3) (Nat.le_of_ble_eq_true rfl)
  rw [lg_entry_eq]
  generalize (lg_sl ([.ref ((u 7)), .int v1]) ++ List.replicate (3 - (lg_sl ([.ref ((u 7)), .int v1])).length) Slot.unset).toArray = ls at hl ⊢
  have hl : lv_has ls 3 [(0, .ref ((u 7))), (1, .int v1)] := hl
  rw [m_Reader_addBytes] at hm
  refine lv_bipush (v := 24) hx hb d_Reader_addBytes_0 (by decide) ?_
  refine lv_istore_n (lv' := [(2, .int 24), (0, .ref ((u 7))), (1, .int v1)]) hx hb d_Reader_addBytes_2 rfl hl (by decide) rfl (fun ls hl => ?_)
  exact lb_Reader_addBytes_3 l dC dI cI adK adV adA u o g n hx hb hml hown hts hK hE hA hr hlocks n _ _ _ _ hm _ _ _ hP hD hS (lv_sub hl [1, 2, 0] rfl)

def m_Reader_cut (n : Nat) (g : Nat → Nat) (i : Nat → Int32) (a : Nat → Nat → Int32) (v1 : Int32) : Option ((Nat → Int32) × (Nat → Nat → Int32) × Int32) := if v1 < ((0 : Int32)) then some (i, a, 0) else if v1 ≤ ((i 24)) then ob1 (upd i 24 v1 : Nat → Int32) (fun i_3 => some (i_3, a, 1)) else some (i, a, 0)
set_option maxHeartbeats 4000000 in
set_option maxRecDepth 100000 in
theorem x_Reader_cut (l : Launch) (dC : Nat → ClassId) (dI : Nat → Nat → Nat) (cI : ClassId) (adK adV adA u o g : Nat → Nat) (sz : Nat) (n : Nat) {i : Nat → Int32} {a : Nat → Nat → Int32} {v1 : Int32} {i2 : Nat → Int32} {a2 : Nat → Nat → Int32} {r2 : Int32} (hm : m_Reader_cut n g i a v1 = some (i2, a2, r2)) : Met l y_Reader_cut w_Reader_cut ({ frames := 0, cells := 0, slots := 0, locals := 0 } : Room) (va_Pc [.ref ((u 7)), .int v1] (xE dC dI cI adK adV adA u o g i a sz)) (va_Qi (xR r2) (xB dC dI cI u o g i2 a2 (va_A (TW cI u o i a g) sz)) (va_A (TW cI u o i a g) sz)) 0 0 ((va_A (TW cI u o i a g) sz)) := by
  refine Met.ofW (cc := b_Reader_cut) (maxL := 2) (ret := (some .boolean)) (by decide) rfl ?_
  intro p e s m args below meth c s₁ B hml hv
  obtain ⟨rfl, hsz, hP, hK, hE, hD0⟩ := hv
  have hx := B.exec
  have hb := B.bytes
  have hr := B.returns
  have hts := atoms_spec (ws := w_Reader_cut) B.pre
  have htt : ∀ w ∈ tw_T, w.before _ s = true := fun w h => hts w (List.mem_cons_of_mem _ h)
  have hown : s.vm.findClass R_Reader = some m.cls := findClass_of_methodNamed B.named
  have hlocks := B.notSynchronized
  subst hsz
  have hD := hD0.self (sz := s.heap.size)
  generalize hAe : (va_A (TW cI u o i a g) s.heap.size) = A at hD hE ⊢
  have hA : ∀ q : Nat, s.heap.size ≤ q → A q := fun q h => by rw [← hAe]; exact Or.inr h
  have hS : va_S A s.heap s.heap [] := va_S.rf
  have hl := lv_entry ([.ref ((u 7)), .int v1]) (n := 2) (Nat.le_of_ble_eq_true rfl)
  rw [lg_entry_eq]
  generalize (lg_sl ([.ref ((u 7)), .int v1]) ++ List.replicate (2 - (lg_sl ([.ref ((u 7)), .int v1])).length) Slot.unset).toArray = ls at hl ⊢
  have hl : lv_has ls 2 [(0, .ref ((u 7))), (1, .int v1)] := hl
  rw [m_Reader_cut] at hm
  refine lv_iload_n hx hb d_Reader_cut_0 rfl (lv_at hl 1 rfl) ?_
  refine lv_if_lt (tgt := 12) hx hb d_Reader_cut_1 (by decide) (fun c_1 => ?_) (fun c_1 => ?_)
  · replace hm := if_t c_1 hm
    refine lv_iconst (v := 0) hx hb d_Reader_cut_12 (by decide) ?_
    obtain ⟨e1i, e1a, e3⟩ := re3 hm
    obtain ⟨hP, hD⟩ := x_eq e1i e1a hP hD
    exact W.zret hx hb hr (by decide) (fun t9 ht hW => ⟨⟨_, (), rfl, e3.symm, by rw [ht]; exact hP, hD⟩, hS.F ht⟩) hS.2.2 d_Reader_cut_13
  · replace hm := if_f c_1 hm
    refine lv_iload_n hx hb d_Reader_cut_4 rfl (lv_at hl 1 rfl) ?_
    refine lv_aload_n hx hb d_Reader_cut_5 rfl (lv_at hl 0 rfl) ?_
    refine va_get (D := (dC, dI)) (ci := 7) (v := .int (i 24)) (C := R_Reader) (T := F_Reader) (N := 19) hx hb htt iw_Reader hown hK hP 7 xo_7 rfl 3 (Nat.le_of_ble_eq_true rfl) (htt _ lk_Reader_38) (fun _ h9 => h9) xg_7_3 d_Reader_cut_6 ?_
    refine lv_icmp_le (tgt := 14) hx hb d_Reader_cut_9 (by decide) (fun c_2 => ?_) (fun c_2 => ?_)
    · replace hm := if_t c_2 hm
      refine lv_aload_n hx hb d_Reader_cut_14 rfl (lv_at hl 0 rfl) ?_
      refine lv_iload_n hx hb d_Reader_cut_15 rfl (lv_at hl 1 rfl) ?_
      refine va_put (D := (dC, dI)) (ci := 7) (v := .int v1) (ty := .int) (C := R_Reader) (T := F_Reader) (N := 19) hx hb htt iw_Reader t_Reader t_Reader_ok n_Reader hown hK hP hD hS 7 xo_7 rfl 3 (Nat.le_of_ble_eq_true rfl) (htt _ lk_Reader_38) (fun _ h9 => h9) rfl (by decide +kernel) rfl rfl xl_7_3 d_Reader_cut_16 (fun H locs hP hD hS => ?_)
      obtain ⟨i_3, ei_3⟩ : ∃ y9 : Nat → Int32, y9 = upd i 24 v1 := ⟨_, rfl⟩
      replace hm := ob1_at ei_3 hm
      obtain ⟨hP, hD⟩ := xw_24 ei_3 hP hD
      refine lv_iconst (v := 1) hx hb d_Reader_cut_19 (by decide) ?_
      obtain ⟨e1i, e1a, e3⟩ := re3 hm
      obtain ⟨hP, hD⟩ := x_eq e1i e1a hP hD
      exact W.zret hx hb hr (by decide) (fun t9 ht hW => ⟨⟨_, (), rfl, e3.symm, by rw [ht]; exact hP, hD⟩, hS.F ht⟩) hS.2.2 d_Reader_cut_20
    · replace hm := if_f c_2 hm
      refine lv_iconst (v := 0) hx hb d_Reader_cut_12 (by decide) ?_
      obtain ⟨e1i, e1a, e3⟩ := re3 hm
      obtain ⟨hP, hD⟩ := x_eq e1i e1a hP hD
      exact W.zret hx hb hr (by decide) (fun t9 ht hW => ⟨⟨_, (), rfl, e3.symm, by rw [ht]; exact hP, hD⟩, hS.F ht⟩) hS.2.2 d_Reader_cut_13

def m_Reader_begin_b18 (n : Nat) (g : Nat → Nat) (i : Nat → Int32) (a : Nat → Nat → Int32) (s0 : Int32) : Option ((Nat → Int32) × (Nat → Nat → Int32) × Int32) := ob1 (upd i 32 s0 : Nat → Int32) (fun i_1 => ob1 (upd i_1 26 0 : Nat → Int32) (fun i_2 => ob1 (upd i_2 28 0 : Nat → Int32) (fun i_3 => ob1 (upd i_3 29 0 : Nat → Int32) (fun i_4 => ob1 (upd i_4 30 0 : Nat → Int32) (fun i_5 => ob1 (upd i_5 33 0 : Nat → Int32) (fun i_6 => ob1 (upd i_6 34 0 : Nat → Int32) (fun i_7 => some (i_7, a, (0 : Int32)))))))))
set_option maxHeartbeats 4000000 in
set_option maxRecDepth 100000 in
theorem lb_Reader_begin_18 (l : Launch) (dC : Nat → ClassId) (dI : Nat → Nat → Nat) (cI : ClassId) (adK adV adA u o g : Nat → Nat) (n : Nat) {p : Program} {e : Env} {s : State} {m : MethodId} {args : Array Value} {below : List Frame} {meth : Method} {c : Code} {A : Nat → Prop} (hx : p.tables.exec = Jvm.exec) (hb : c.code = b_Reader_begin) (hml : c.maxLocals = 2) (hown : s.vm.findClass R_Reader = some m.cls) (hts : ∀ w ∈ w_Reader_begin, w.before args s = true) (hK : va_K (dC, dI) classes [(cI, .int)] s) (hE : tw_E adK adV adA A s s.heap) (hA : ∀ q : Nat, s.heap.size ≤ q → A q) (hr : meth.sig.returnType = none) (hlocks : meth.locks = false) {i2 : Nat → Int32} {a2 : Nat → Nat → Int32} {r2 : Int32} (i : Nat → Int32) (a : Nat → Nat → Int32) (s0 : Int32) (hm : m_Reader_begin_b18 n g i a s0 = some (i2, a2, r2)) : ∀ (H : Heap) (locs : List Loc) (ls : Array Slot), va_P (dC, dI) classes (TW cI u o i a g) H → va_D A (TW cI u o i a g) → va_S A s.heap H locs → lv_has ls 2 [(0, .ref ((u 7)))] → W p l e ({ frames := 0, cells := 0, slots := 0, locals := 0 } : Room) s m args below meth c H locs 0 0 (MQ below (va_Qv xV (xB dC dI cI u o g i2 a2 A) A) args s 0 0 A) (F0 m 18 ls [.int s0, .ref ((u 7))]) := by
  have htt : ∀ w ∈ tw_T, w.before _ s = true := fun w h => hts w (List.mem_cons_of_mem _ h)
  intro H locs ls hP hD hS hl
  rw [m_Reader_begin_b18] at hm
  refine va_put (D := (dC, dI)) (ci := 7) (v := .int s0) (ty := .int) (C := R_Reader) (T := F_Reader) (N := 19) hx hb htt iw_Reader t_Reader t_Reader_ok n_Reader hown hK hP hD hS 7 xo_7 rfl 13 (Nat.le_of_ble_eq_true rfl) (htt _ lk_Reader_72) (fun _ h9 => h9) rfl (by decide +kernel) rfl rfl xl_7_13 d_Reader_begin_18 (fun H locs hP hD hS => ?_)
  obtain ⟨i_1, ei_1⟩ : ∃ y9 : Nat → Int32, y9 = upd i 32 s0 := ⟨_, rfl⟩
  replace hm := ob1_at ei_1 hm
  obtain ⟨hP, hD⟩ := xw_32 ei_1 hP hD
  refine lv_aload_n hx hb d_Reader_begin_21 rfl (lv_at hl 0 rfl) ?_
  refine lv_iconst (v := 0) hx hb d_Reader_begin_22 (by decide) ?_
  refine va_put (D := (dC, dI)) (ci := 7) (v := .int 0) (ty := .int) (C := R_Reader) (T := F_Reader) (N := 19) hx hb htt iw_Reader t_Reader t_Reader_ok n_Reader hown hK hP hD hS 7 xo_7 rfl 5 (Nat.le_of_ble_eq_true rfl) (htt _ lk_Reader_51) (fun _ h9 => h9) rfl (by decide +kernel) rfl rfl xl_7_5 d_Reader_begin_23 (fun H locs hP hD hS => ?_)
  obtain ⟨i_2, ei_2⟩ : ∃ y9 : Nat → Int32, y9 = upd i_1 26 0 := ⟨_, rfl⟩
  replace hm := ob1_at ei_2 hm
  obtain ⟨hP, hD⟩ := xw_26 ei_2 hP hD
  refine lv_aload_n hx hb d_Reader_begin_26 rfl (lv_at hl 0 rfl) ?_
  refine lv_iconst (v := 0) hx hb d_Reader_begin_27 (by decide) ?_
  refine va_put (D := (dC, dI)) (ci := 7) (v := .int 0) (ty := .int) (C := R_Reader) (T := F_Reader) (N := 19) hx hb htt iw_Reader t_Reader t_Reader_ok n_Reader hown hK hP hD hS 7 xo_7 rfl 8 (Nat.le_of_ble_eq_true rfl) (htt _ lk_Reader_75) (fun _ h9 => h9) rfl (by decide +kernel) rfl rfl xl_7_8 d_Reader_begin_28 (fun H locs hP hD hS => ?_)
  obtain ⟨i_3, ei_3⟩ : ∃ y9 : Nat → Int32, y9 = upd i_2 28 0 := ⟨_, rfl⟩
  replace hm := ob1_at ei_3 hm
  obtain ⟨hP, hD⟩ := xw_28 ei_3 hP hD
  refine lv_aload_n hx hb d_Reader_begin_31 rfl (lv_at hl 0 rfl) ?_
  refine lv_iconst (v := 0) hx hb d_Reader_begin_32 (by decide) ?_
  refine va_put (D := (dC, dI)) (ci := 7) (v := .int 0) (ty := .int) (C := R_Reader) (T := F_Reader) (N := 19) hx hb htt iw_Reader t_Reader t_Reader_ok n_Reader hown hK hP hD hS 7 xo_7 rfl 10 (Nat.le_of_ble_eq_true rfl) (htt _ lk_Reader_78) (fun _ h9 => h9) rfl (by decide +kernel) rfl rfl xl_7_10 d_Reader_begin_33 (fun H locs hP hD hS => ?_)
  obtain ⟨i_4, ei_4⟩ : ∃ y9 : Nat → Int32, y9 = upd i_3 29 0 := ⟨_, rfl⟩
  replace hm := ob1_at ei_4 hm
  obtain ⟨hP, hD⟩ := xw_29 ei_4 hP hD
  refine lv_aload_n hx hb d_Reader_begin_36 rfl (lv_at hl 0 rfl) ?_
  refine lv_iconst (v := 0) hx hb d_Reader_begin_37 (by decide) ?_
  refine va_put (D := (dC, dI)) (ci := 7) (v := .int 0) (ty := .int) (C := R_Reader) (T := F_Reader) (N := 19) hx hb htt iw_Reader t_Reader t_Reader_ok n_Reader hown hK hP hD hS 7 xo_7 rfl 11 (Nat.le_of_ble_eq_true rfl) (htt _ lk_Reader_81) (fun _ h9 => h9) rfl (by decide +kernel) rfl rfl xl_7_11 d_Reader_begin_38 (fun H locs hP hD hS => ?_)
  obtain ⟨i_5, ei_5⟩ : ∃ y9 : Nat → Int32, y9 = upd i_4 30 0 := ⟨_, rfl⟩
  replace hm := ob1_at ei_5 hm
  obtain ⟨hP, hD⟩ := xw_30 ei_5 hP hD
  refine lv_aload_n hx hb d_Reader_begin_41 rfl (lv_at hl 0 rfl) ?_
  refine lv_iconst (v := 0) hx hb d_Reader_begin_42 (by decide) ?_
  refine va_put (D := (dC, dI)) (ci := 7) (v := .int 0) (ty := .int) (C := R_Reader) (T := F_Reader) (N := 19) hx hb htt iw_Reader t_Reader t_Reader_ok n_Reader hown hK hP hD hS 7 xo_7 rfl 17 (Nat.le_of_ble_eq_true rfl) (htt _ lk_Reader_84) (fun _ h9 => h9) rfl (by decide +kernel) rfl rfl xl_7_17 d_Reader_begin_43 (fun H locs hP hD hS => ?_)
  obtain ⟨i_6, ei_6⟩ : ∃ y9 : Nat → Int32, y9 = upd i_5 33 0 := ⟨_, rfl⟩
  replace hm := ob1_at ei_6 hm
  obtain ⟨hP, hD⟩ := xw_33 ei_6 hP hD
  refine lv_aload_n hx hb d_Reader_begin_46 rfl (lv_at hl 0 rfl) ?_
  refine lv_iconst (v := 0) hx hb d_Reader_begin_47 (by decide) ?_
  refine va_put (D := (dC, dI)) (ci := 7) (v := .int 0) (ty := .int) (C := R_Reader) (T := F_Reader) (N := 19) hx hb htt iw_Reader t_Reader t_Reader_ok n_Reader hown hK hP hD hS 7 xo_7 rfl 18 (Nat.le_of_ble_eq_true rfl) (htt _ lk_Reader_87) (fun _ h9 => h9) rfl (by decide +kernel) rfl rfl xl_7_18 d_Reader_begin_48 (fun H locs hP hD hS => ?_)
  obtain ⟨i_7, ei_7⟩ : ∃ y9 : Nat → Int32, y9 = upd i_6 34 0 := ⟨_, rfl⟩
  replace hm := ob1_at ei_7 hm
  obtain ⟨hP, hD⟩ := xw_34 ei_7 hP hD
  obtain ⟨e1i, e1a, e3⟩ := re3 hm
  obtain ⟨hP, hD⟩ := x_eq e1i e1a hP hD
  exact W.vret hx hb hr (fun t9 ht hW => ⟨⟨(), rfl, trivial, by rw [ht]; exact hP, hD⟩, hS.F ht⟩) hS.2.2 d_Reader_begin_51
def m_Reader_begin (n : Nat) (g : Nat → Nat) (i : Nat → Int32) (a : Nat → Nat → Int32) (v1 : Int32) : Option ((Nat → Int32) × (Nat → Nat → Int32) × Int32) := cb v1 (ob1 (upd i 31 v1 : Nat → Int32) (fun i_2 => if ((i_2 31)) = ((0 : Int32)) then m_Reader_begin_b18 n g i_2 a (3 : Int32) else m_Reader_begin_b18 n g i_2 a (0 : Int32)))
set_option maxHeartbeats 4000000 in
set_option maxRecDepth 100000 in
theorem x_Reader_begin (l : Launch) (dC : Nat → ClassId) (dI : Nat → Nat → Nat) (cI : ClassId) (adK adV adA u o g : Nat → Nat) (sz : Nat) (n : Nat) {i : Nat → Int32} {a : Nat → Nat → Int32} {v1 : Int32} {i2 : Nat → Int32} {a2 : Nat → Nat → Int32} {r2 : Int32} (hm : m_Reader_begin n g i a v1 = some (i2, a2, r2)) : Met l y_Reader_begin w_Reader_begin ({ frames := 0, cells := 0, slots := 0, locals := 0 } : Room) (va_Pc [.ref ((u 7)), .int v1] (xE dC dI cI adK adV adA u o g i a sz)) (va_Qv xV (xB dC dI cI u o g i2 a2 (va_A (TW cI u o i a g) sz)) (va_A (TW cI u o i a g) sz)) 0 0 ((va_A (TW cI u o i a g) sz)) := by
  refine Met.ofW (cc := b_Reader_begin) (maxL := 2) (ret := none) (by decide) rfl ?_
  intro p e s m args below meth c s₁ B hml hv
  obtain ⟨rfl, hsz, hP, hK, hE, hD0⟩ := hv
  have hx := B.exec
  have hb := B.bytes
  have hr := B.returns
  have hts := atoms_spec (ws := w_Reader_begin) B.pre
  have htt : ∀ w ∈ tw_T, w.before _ s = true := fun w h => hts w (List.mem_cons_of_mem _ h)
  have hown : s.vm.findClass R_Reader = some m.cls := findClass_of_methodNamed B.named
  have hlocks := B.notSynchronized
  subst hsz
  have hD := hD0.self (sz := s.heap.size)
  generalize hAe : (va_A (TW cI u o i a g) s.heap.size) = A at hD hE ⊢
  have hA : ∀ q : Nat, s.heap.size ≤ q → A q := fun q h => by rw [← hAe]; exact Or.inr h
  have hS : va_S A s.heap s.heap [] := va_S.rf
  have hl := lv_entry ([.ref ((u 7)), .int v1]) (n := 2) (Nat.le_of_ble_eq_true rfl)
  rw [lg_entry_eq]
  generalize (lg_sl ([.ref ((u 7)), .int v1]) ++ List.replicate (2 - (lg_sl ([.ref ((u 7)), .int v1])).length) Slot.unset).toArray = ls at hl ⊢
  have hl : lv_has ls 2 [(0, .ref ((u 7))), (1, .int v1)] := hl
  rw [m_Reader_begin] at hm
  refine lv_aload_n hx hb d_Reader_begin_0 rfl (lv_at hl 0 rfl) ?_
  refine lv_iload_n hx hb d_Reader_begin_1 rfl (lv_at hl 1 rfl) ?_
  obtain ⟨h_1, h_1f, hm⟩ := cb_some hm
  refine va_put (D := (dC, dI)) (ci := 7) (v := .int v1) (ty := .boolean) (C := R_Reader) (T := F_Reader) (N := 19) hx hb htt iw_Reader t_Reader t_Reader_ok n_Reader hown hK hP hD hS 7 xo_7 rfl 12 (Nat.le_of_ble_eq_true rfl) (htt _ lk_Reader_68) (fun _ h9 => h9) rfl (by decide +kernel) h_1 h_1f xl_7_12 d_Reader_begin_2 (fun H locs hP hD hS => ?_)
  obtain ⟨i_2, ei_2⟩ : ∃ y9 : Nat → Int32, y9 = upd i 31 v1 := ⟨_, rfl⟩
  replace hm := ob1_at ei_2 hm
  obtain ⟨hP, hD⟩ := xw_31 ei_2 hP hD
  refine lv_aload_n hx hb d_Reader_begin_5 rfl (lv_at hl 0 rfl) ?_
  refine lv_aload_n hx hb d_Reader_begin_6 rfl (lv_at hl 0 rfl) ?_
  refine va_get (D := (dC, dI)) (ci := 7) (v := .int (i_2 31)) (C := R_Reader) (T := F_Reader) (N := 19) hx hb htt iw_Reader hown hK hP 7 xo_7 rfl 12 (Nat.le_of_ble_eq_true rfl) (htt _ lk_Reader_68) (fun _ h9 => h9) xg_7_12 d_Reader_begin_7 ?_
  refine lv_if_eq (tgt := 17) hx hb d_Reader_begin_10 (by decide) (fun c_3 => ?_) (fun c_3 => ?_)
  · replace hm := if_t c_3 hm
    refine lv_iconst (v := 3) hx hb d_Reader_begin_17 (by decide) ?_
    exact lb_Reader_begin_18 l dC dI cI adK adV adA u o g n hx hb hml hown hts hK hE hA hr hlocks _ _ _ hm _ _ _ hP hD hS (lv_sub hl [0] rfl)
  · replace hm := if_f c_3 hm
    refine lv_iconst (v := 0) hx hb d_Reader_begin_13 (by decide) ?_
    refine lv_goto (tgt := 18) hx hb d_Reader_begin_14 (by decide) ?_
    exact lb_Reader_begin_18 l dC dI cI adK adV adA u o g n hx hb hml hown hts hK hE hA hr hlocks _ _ _ hm _ _ _ hP hD hS (lv_sub hl [0] rfl)

def m_Reader_blame (n : Nat) (g : Nat → Nat) (i : Nat → Int32) (a : Nat → Nat → Int32) (v1 : Int32) (v2 : Int32) : Option ((Nat → Int32) × (Nat → Nat → Int32) × Int32) := if ((i 26)) = ((0 : Int32)) then ob1 (upd i 26 v1 : Nat → Int32) (fun i_2 => ob1 (upd i_2 25 v2 : Nat → Int32) (fun i_3 => some (i_3, a, (0 : Int32)))) else some (i, a, (0 : Int32))
set_option maxHeartbeats 4000000 in
set_option maxRecDepth 100000 in
theorem x_Reader_blame (l : Launch) (dC : Nat → ClassId) (dI : Nat → Nat → Nat) (cI : ClassId) (adK adV adA u o g : Nat → Nat) (sz : Nat) (n : Nat) {i : Nat → Int32} {a : Nat → Nat → Int32} {v1 : Int32} {v2 : Int32} {i2 : Nat → Int32} {a2 : Nat → Nat → Int32} {r2 : Int32} (hm : m_Reader_blame n g i a v1 v2 = some (i2, a2, r2)) : Met l y_Reader_blame w_Reader_blame ({ frames := 0, cells := 0, slots := 0, locals := 0 } : Room) (va_Pc [.ref ((u 7)), .int v1, .int v2] (xE dC dI cI adK adV adA u o g i a sz)) (va_Qv xV (xB dC dI cI u o g i2 a2 (va_A (TW cI u o i a g) sz)) (va_A (TW cI u o i a g) sz)) 0 0 ((va_A (TW cI u o i a g) sz)) := by
  refine Met.ofW (cc := b_Reader_blame) (maxL := 3) (ret := none) (by decide) rfl ?_
  intro p e s m args below meth c s₁ B hml hv
  obtain ⟨rfl, hsz, hP, hK, hE, hD0⟩ := hv
  have hx := B.exec
  have hb := B.bytes
  have hr := B.returns
  have hts := atoms_spec (ws := w_Reader_blame) B.pre
  have htt : ∀ w ∈ tw_T, w.before _ s = true := fun w h => hts w (List.mem_cons_of_mem _ h)
  have hown : s.vm.findClass R_Reader = some m.cls := findClass_of_methodNamed B.named
  have hlocks := B.notSynchronized
  subst hsz
  have hD := hD0.self (sz := s.heap.size)
  generalize hAe : (va_A (TW cI u o i a g) s.heap.size) = A at hD hE ⊢
  have hA : ∀ q : Nat, s.heap.size ≤ q → A q := fun q h => by rw [← hAe]; exact Or.inr h
  have hS : va_S A s.heap s.heap [] := va_S.rf
  have hl := lv_entry ([.ref ((u 7)), .int v1, .int v2]) (n := 3) (Nat.le_of_ble_eq_true rfl)
  rw [lg_entry_eq]
  generalize (lg_sl ([.ref ((u 7)), .int v1, .int v2]) ++ List.replicate (3 - (lg_sl ([.ref ((u 7)), .int v1, .int v2])).length) Slot.unset).toArray = ls at hl ⊢
  have hl : lv_has ls 3 [(0, .ref ((u 7))), (1, .int v1), (2, .int v2)] := hl
  rw [m_Reader_blame] at hm
  refine lv_aload_n hx hb d_Reader_blame_0 rfl (lv_at hl 0 rfl) ?_
  refine va_get (D := (dC, dI)) (ci := 7) (v := .int (i 26)) (C := R_Reader) (T := F_Reader) (N := 19) hx hb htt iw_Reader hown hK hP 7 xo_7 rfl 5 (Nat.le_of_ble_eq_true rfl) (htt _ lk_Reader_51) (fun _ h9 => h9) xg_7_5 d_Reader_blame_1 ?_
  refine lv_if_ne (tgt := 17) hx hb d_Reader_blame_4 (by decide) (fun c_1 => ?_) (fun c_1 => ?_)
  · replace hm := if_f c_1 hm
    obtain ⟨e1i, e1a, e3⟩ := re3 hm
    obtain ⟨hP, hD⟩ := x_eq e1i e1a hP hD
    exact W.vret hx hb hr (fun t9 ht hW => ⟨⟨(), rfl, trivial, by rw [ht]; exact hP, hD⟩, hS.F ht⟩) hS.2.2 d_Reader_blame_17
  · replace hm := if_t c_1 hm
    refine lv_aload_n hx hb d_Reader_blame_7 rfl (lv_at hl 0 rfl) ?_
    refine lv_iload_n hx hb d_Reader_blame_8 rfl (lv_at hl 1 rfl) ?_
    refine va_put (D := (dC, dI)) (ci := 7) (v := .int v1) (ty := .int) (C := R_Reader) (T := F_Reader) (N := 19) hx hb htt iw_Reader t_Reader t_Reader_ok n_Reader hown hK hP hD hS 7 xo_7 rfl 5 (Nat.le_of_ble_eq_true rfl) (htt _ lk_Reader_51) (fun _ h9 => h9) rfl (by decide +kernel) rfl rfl xl_7_5 d_Reader_blame_9 (fun H locs hP hD hS => ?_)
    obtain ⟨i_2, ei_2⟩ : ∃ y9 : Nat → Int32, y9 = upd i 26 v1 := ⟨_, rfl⟩
    replace hm := ob1_at ei_2 hm
    obtain ⟨hP, hD⟩ := xw_26 ei_2 hP hD
    refine lv_aload_n hx hb d_Reader_blame_12 rfl (lv_at hl 0 rfl) ?_
    refine lv_iload_n hx hb d_Reader_blame_13 rfl (lv_at hl 2 rfl) ?_
    refine va_put (D := (dC, dI)) (ci := 7) (v := .int v2) (ty := .int) (C := R_Reader) (T := F_Reader) (N := 19) hx hb htt iw_Reader t_Reader t_Reader_ok n_Reader hown hK hP hD hS 7 xo_7 rfl 4 (Nat.le_of_ble_eq_true rfl) (htt _ lk_Reader_90) (fun _ h9 => h9) rfl (by decide +kernel) rfl rfl xl_7_4 d_Reader_blame_14 (fun H locs hP hD hS => ?_)
    obtain ⟨i_3, ei_3⟩ : ∃ y9 : Nat → Int32, y9 = upd i_2 25 v2 := ⟨_, rfl⟩
    replace hm := ob1_at ei_3 hm
    obtain ⟨hP, hD⟩ := xw_25 ei_3 hP hD
    obtain ⟨e1i, e1a, e3⟩ := re3 hm
    obtain ⟨hP, hD⟩ := x_eq e1i e1a hP hD
    exact W.vret hx hb hr (fun t9 ht hW => ⟨⟨(), rfl, trivial, by rw [ht]; exact hP, hD⟩, hS.F ht⟩) hS.2.2 d_Reader_blame_17

def m_Reader_isSign (n : Nat) (v0 : Int32) : Option (Int32) := if v0 = ((43 : Int32)) then some 1 else if v0 = ((45 : Int32)) then some 1 else if v0 = ((42 : Int32)) then some 1 else if v0 = ((47 : Int32)) then some 1 else if v0 = ((61 : Int32)) then some 1 else if v0 = ((60 : Int32)) then some 1 else if v0 = ((62 : Int32)) then some 1 else some 0
set_option maxHeartbeats 4000000 in
set_option maxRecDepth 100000 in
theorem x_Reader_isSign (l : Launch) (sz : Nat) (n : Nat) {v0 : Int32} {r2 : Int32} (hm : m_Reader_isSign n v0 = some r2) : Met l y_Reader_isSign w_Reader_isSign ({ frames := 0, cells := 0, slots := 0, locals := 0 } : Room) (va_Pc [.int v0] (xE0 sz)) (va_Qi (xR r2) xT (xN sz)) 0 0 (xN sz) := by
  refine Met.ofW (cc := b_Reader_isSign) (maxL := 1) (ret := (some .boolean)) (by decide) rfl ?_
  intro p e s m args below meth c s₁ B hml hv
  obtain ⟨rfl, hsz⟩ := hv
  have hx := B.exec
  have hb := B.bytes
  have hr := B.returns
  have hts := atoms_spec (ws := w_Reader_isSign) B.pre
  have htt : ∀ w ∈ tw_T, w.before _ s = true := fun w h => hts w (List.mem_cons_of_mem _ h)
  have hown : s.vm.findClass R_Reader = some m.cls := findClass_of_methodNamed B.named
  have hlocks := B.notSynchronized
  subst hsz
  generalize hAe : xN s.heap.size = A
  have hA : ∀ q : Nat, s.heap.size ≤ q → A q := fun q h => by rw [← hAe]; exact Or.inr h
  have hS : va_S A s.heap s.heap [] := va_S.rf
  have hl := lv_entry ([.int v0]) (n := 1) (Nat.le_of_ble_eq_true rfl)
  rw [lg_entry_eq]
  generalize (lg_sl ([.int v0]) ++ List.replicate (1 - (lg_sl ([.int v0])).length) Slot.unset).toArray = ls at hl ⊢
  have hl : lv_has ls 1 [(0, .int v0)] := hl
  rw [m_Reader_isSign] at hm
  refine lv_iload_n hx hb d_Reader_isSign_0 rfl (lv_at hl 0 rfl) ?_
  refine lv_bipush (v := 43) hx hb d_Reader_isSign_1 (by decide) ?_
  refine lv_icmp_eq (tgt := 42) hx hb d_Reader_isSign_3 (by decide) (fun c_1 => ?_) (fun c_1 => ?_)
  · replace hm := if_t c_1 hm
    refine lv_iconst (v := 1) hx hb d_Reader_isSign_42 (by decide) ?_
    refine lv_goto (tgt := 47) hx hb d_Reader_isSign_43 (by decide) ?_
    have e3 := re1 hm
    exact W.zret hx hb hr (by decide) (fun t9 ht hW => ⟨⟨_, (), rfl, e3.symm, trivial⟩, hS.F ht⟩) hS.2.2 d_Reader_isSign_47
  · replace hm := if_f c_1 hm
    refine lv_iload_n hx hb d_Reader_isSign_6 rfl (lv_at hl 0 rfl) ?_
    refine lv_bipush (v := 45) hx hb d_Reader_isSign_7 (by decide) ?_
    refine lv_icmp_eq (tgt := 42) hx hb d_Reader_isSign_9 (by decide) (fun c_2 => ?_) (fun c_2 => ?_)
    · replace hm := if_t c_2 hm
      refine lv_iconst (v := 1) hx hb d_Reader_isSign_42 (by decide) ?_
      refine lv_goto (tgt := 47) hx hb d_Reader_isSign_43 (by decide) ?_
      have e3 := re1 hm
      exact W.zret hx hb hr (by decide) (fun t9 ht hW => ⟨⟨_, (), rfl, e3.symm, trivial⟩, hS.F ht⟩) hS.2.2 d_Reader_isSign_47
    · replace hm := if_f c_2 hm
      refine lv_iload_n hx hb d_Reader_isSign_12 rfl (lv_at hl 0 rfl) ?_
      refine lv_bipush (v := 42) hx hb d_Reader_isSign_13 (by decide) ?_
      refine lv_icmp_eq (tgt := 42) hx hb d_Reader_isSign_15 (by decide) (fun c_3 => ?_) (fun c_3 => ?_)
      · replace hm := if_t c_3 hm
        refine lv_iconst (v := 1) hx hb d_Reader_isSign_42 (by decide) ?_
        refine lv_goto (tgt := 47) hx hb d_Reader_isSign_43 (by decide) ?_
        have e3 := re1 hm
        exact W.zret hx hb hr (by decide) (fun t9 ht hW => ⟨⟨_, (), rfl, e3.symm, trivial⟩, hS.F ht⟩) hS.2.2 d_Reader_isSign_47
      · replace hm := if_f c_3 hm
        refine lv_iload_n hx hb d_Reader_isSign_18 rfl (lv_at hl 0 rfl) ?_
        refine lv_bipush (v := 47) hx hb d_Reader_isSign_19 (by decide) ?_
        refine lv_icmp_eq (tgt := 42) hx hb d_Reader_isSign_21 (by decide) (fun c_4 => ?_) (fun c_4 => ?_)
        · replace hm := if_t c_4 hm
          refine lv_iconst (v := 1) hx hb d_Reader_isSign_42 (by decide) ?_
          refine lv_goto (tgt := 47) hx hb d_Reader_isSign_43 (by decide) ?_
          have e3 := re1 hm
          exact W.zret hx hb hr (by decide) (fun t9 ht hW => ⟨⟨_, (), rfl, e3.symm, trivial⟩, hS.F ht⟩) hS.2.2 d_Reader_isSign_47
        · replace hm := if_f c_4 hm
          refine lv_iload_n hx hb d_Reader_isSign_24 rfl (lv_at hl 0 rfl) ?_
          refine lv_bipush (v := 61) hx hb d_Reader_isSign_25 (by decide) ?_
          refine lv_icmp_eq (tgt := 42) hx hb d_Reader_isSign_27 (by decide) (fun c_5 => ?_) (fun c_5 => ?_)
          · replace hm := if_t c_5 hm
            refine lv_iconst (v := 1) hx hb d_Reader_isSign_42 (by decide) ?_
            refine lv_goto (tgt := 47) hx hb d_Reader_isSign_43 (by decide) ?_
            have e3 := re1 hm
            exact W.zret hx hb hr (by decide) (fun t9 ht hW => ⟨⟨_, (), rfl, e3.symm, trivial⟩, hS.F ht⟩) hS.2.2 d_Reader_isSign_47
          · replace hm := if_f c_5 hm
            refine lv_iload_n hx hb d_Reader_isSign_30 rfl (lv_at hl 0 rfl) ?_
            refine lv_bipush (v := 60) hx hb d_Reader_isSign_31 (by decide) ?_
            refine lv_icmp_eq (tgt := 42) hx hb d_Reader_isSign_33 (by decide) (fun c_6 => ?_) (fun c_6 => ?_)
            · replace hm := if_t c_6 hm
              refine lv_iconst (v := 1) hx hb d_Reader_isSign_42 (by decide) ?_
              refine lv_goto (tgt := 47) hx hb d_Reader_isSign_43 (by decide) ?_
              have e3 := re1 hm
              exact W.zret hx hb hr (by decide) (fun t9 ht hW => ⟨⟨_, (), rfl, e3.symm, trivial⟩, hS.F ht⟩) hS.2.2 d_Reader_isSign_47
            · replace hm := if_f c_6 hm
              refine lv_iload_n hx hb d_Reader_isSign_36 rfl (lv_at hl 0 rfl) ?_
              refine lv_bipush (v := 62) hx hb d_Reader_isSign_37 (by decide) ?_
              refine lv_icmp_ne (tgt := 46) hx hb d_Reader_isSign_39 (by decide) (fun c_7 => ?_) (fun c_7 => ?_)
              · replace hm := if_f c_7 hm
                refine lv_iconst (v := 0) hx hb d_Reader_isSign_46 (by decide) ?_
                have e3 := re1 hm
                exact W.zret hx hb hr (by decide) (fun t9 ht hW => ⟨⟨_, (), rfl, e3.symm, trivial⟩, hS.F ht⟩) hS.2.2 d_Reader_isSign_47
              · replace hm := if_t c_7 hm
                refine lv_iconst (v := 1) hx hb d_Reader_isSign_42 (by decide) ?_
                refine lv_goto (tgt := 47) hx hb d_Reader_isSign_43 (by decide) ?_
                have e3 := re1 hm
                exact W.zret hx hb hr (by decide) (fun t9 ht hW => ⟨⟨_, (), rfl, e3.symm, trivial⟩, hS.F ht⟩) hS.2.2 d_Reader_isSign_47

def m_Reader_isDigit (n : Nat) (v0 : Int32) : Option (Int32) := if v0 < ((48 : Int32)) then some 0 else if ((57 : Int32)) < v0 then some 0 else some 1
set_option maxHeartbeats 4000000 in
set_option maxRecDepth 100000 in
theorem x_Reader_isDigit (l : Launch) (sz : Nat) (n : Nat) {v0 : Int32} {r2 : Int32} (hm : m_Reader_isDigit n v0 = some r2) : Met l y_Reader_isDigit w_Reader_isDigit ({ frames := 0, cells := 0, slots := 0, locals := 0 } : Room) (va_Pc [.int v0] (xE0 sz)) (va_Qi (xR r2) xT (xN sz)) 0 0 (xN sz) := by
  refine Met.ofW (cc := b_Reader_isDigit) (maxL := 1) (ret := (some .boolean)) (by decide) rfl ?_
  intro p e s m args below meth c s₁ B hml hv
  obtain ⟨rfl, hsz⟩ := hv
  have hx := B.exec
  have hb := B.bytes
  have hr := B.returns
  have hts := atoms_spec (ws := w_Reader_isDigit) B.pre
  have htt : ∀ w ∈ tw_T, w.before _ s = true := fun w h => hts w (List.mem_cons_of_mem _ h)
  have hown : s.vm.findClass R_Reader = some m.cls := findClass_of_methodNamed B.named
  have hlocks := B.notSynchronized
  subst hsz
  generalize hAe : xN s.heap.size = A
  have hA : ∀ q : Nat, s.heap.size ≤ q → A q := fun q h => by rw [← hAe]; exact Or.inr h
  have hS : va_S A s.heap s.heap [] := va_S.rf
  have hl := lv_entry ([.int v0]) (n := 1) (Nat.le_of_ble_eq_true rfl)
  rw [lg_entry_eq]
  generalize (lg_sl ([.int v0]) ++ List.replicate (1 - (lg_sl ([.int v0])).length) Slot.unset).toArray = ls at hl ⊢
  have hl : lv_has ls 1 [(0, .int v0)] := hl
  rw [m_Reader_isDigit] at hm
  refine lv_iload_n hx hb d_Reader_isDigit_0 rfl (lv_at hl 0 rfl) ?_
  refine lv_bipush (v := 48) hx hb d_Reader_isDigit_1 (by decide) ?_
  refine lv_icmp_lt (tgt := 16) hx hb d_Reader_isDigit_3 (by decide) (fun c_1 => ?_) (fun c_1 => ?_)
  · replace hm := if_t c_1 hm
    refine lv_iconst (v := 0) hx hb d_Reader_isDigit_16 (by decide) ?_
    have e3 := re1 hm
    exact W.zret hx hb hr (by decide) (fun t9 ht hW => ⟨⟨_, (), rfl, e3.symm, trivial⟩, hS.F ht⟩) hS.2.2 d_Reader_isDigit_17
  · replace hm := if_f c_1 hm
    refine lv_iload_n hx hb d_Reader_isDigit_6 rfl (lv_at hl 0 rfl) ?_
    refine lv_bipush (v := 57) hx hb d_Reader_isDigit_7 (by decide) ?_
    refine lv_icmp_gt (tgt := 16) hx hb d_Reader_isDigit_9 (by decide) (fun c_2 => ?_) (fun c_2 => ?_)
    · replace hm := if_t c_2 hm
      refine lv_iconst (v := 0) hx hb d_Reader_isDigit_16 (by decide) ?_
      have e3 := re1 hm
      exact W.zret hx hb hr (by decide) (fun t9 ht hW => ⟨⟨_, (), rfl, e3.symm, trivial⟩, hS.F ht⟩) hS.2.2 d_Reader_isDigit_17
    · replace hm := if_f c_2 hm
      refine lv_iconst (v := 1) hx hb d_Reader_isDigit_12 (by decide) ?_
      refine lv_goto (tgt := 17) hx hb d_Reader_isDigit_13 (by decide) ?_
      have e3 := re1 hm
      exact W.zret hx hb hr (by decide) (fun t9 ht hW => ⟨⟨_, (), rfl, e3.symm, trivial⟩, hS.F ht⟩) hS.2.2 d_Reader_isDigit_17

def m_Heap_size_b50 (n : Nat) (g : Nat → Nat) (i : Nat → Int32) (a : Nat → Nat → Int32) : Nat → Int32 → Int32 → Option (Int32)
  | 0, _, _ => none
  | f + 1, v3, v4 => if ((nI (g 0))) ≤ v4 then some v3 else ck v4 (g 0) (if ((a 0 v4.toNatClampNeg)) = ((0 : Int32)) then some v3 else ob1 (v3 + 1 : Int32) (fun x_4 => ob1 (v4 + 1 : Int32) (fun x_5 => m_Heap_size_b50 n g i a f x_4 x_5)))
set_option maxHeartbeats 4000000 in
set_option maxRecDepth 100000 in
theorem lb_Heap_size_50 (l : Launch) (dC : Nat → ClassId) (dI : Nat → Nat → Nat) (cI : ClassId) (adK adV adA u o g : Nat → Nat) (n : Nat) {p : Program} {e : Env} {s : State} {m : MethodId} {args : Array Value} {below : List Frame} {meth : Method} {c : Code} {A : Nat → Prop} (hx : p.tables.exec = Jvm.exec) (hb : c.code = b_Heap_size) (hml : c.maxLocals = 5) (hown : s.vm.findClass R_Heap = some m.cls) (hts : ∀ w ∈ w_Heap_size, w.before args s = true) (hK : va_K (dC, dI) classes [(cI, .int)] s) (hE : tw_E adK adV adA A s s.heap) (hA : ∀ q : Nat, s.heap.size ≤ q → A q) (hr : meth.sig.returnType = (some .int)) (hlocks : meth.locks = false) {i : Nat → Int32} {a : Nat → Nat → Int32} {r2 : Int32} : ∀ (f : Nat) (v3 : Int32) (v4 : Int32), m_Heap_size_b50 n g i a f v3 v4 = some r2 → ∀ (H : Heap) (locs : List Loc) (ls : Array Slot), va_P (dC, dI) classes (TW cI u o i a g) H → va_S A s.heap H locs → lv_has ls 5 [(0, .ref ((u 1))), (3, .int v3), (4, .int v4)] → W p l e ({ frames := 0, cells := 0, slots := 0, locals := 0 } : Room) s m args below meth c H locs 0 0 (MQ below (va_Qi (xR r2) xT A) args s 0 0 A) (F0 m 50 ls []) := by
  have htt : ∀ w ∈ tw_T, w.before _ s = true := fun w h => hts w (List.mem_cons_of_mem _ h)
  intro f
  induction f with
  | zero =>
    intro v3 v4 hm
    rw [m_Heap_size_b50] at hm
    cases hm
  | succ f ih =>
    intro v3 v4 hm H locs ls hP hS hl
    rw [m_Heap_size_b50] at hm
    refine lv_iload hx hb d_Heap_size_50 (lv_at hl 2 rfl) ?_
    refine lv_aload_n hx hb d_Heap_size_52 rfl (lv_at hl 0 rfl) ?_
    refine va_get (D := (dC, dI)) (ci := 1) (v := .ref ((o 0))) (C := R_Heap) (T := F_Heap) (N := 12) hx hb htt iw_Heap hown hK hP 1 xo_1 rfl 5 (Nat.le_of_ble_eq_true rfl) (htt _ lk_Heap_11) (fun _ h9 => h9) xg_1_5 d_Heap_size_53 ?_
    refine va_alen (v := nI (g 0)) hx hb hK hP 12 0 twA_0 rfl rfl d_Heap_size_56 ?_
    refine lv_icmp_ge (tgt := 79) hx hb d_Heap_size_57 (by decide) (fun c_1 => ?_) (fun c_1 => ?_)
    · replace hm := if_t c_1 hm
      refine lv_iload_n hx hb d_Heap_size_79 rfl (lv_at hl 1 rfl) ?_
      have e3 := re1 hm
      exact W.iret hx hb hr (fun t9 ht hW => ⟨⟨_, (), rfl, e3.symm, trivial⟩, hS.F ht⟩) hS.2.2 d_Heap_size_80
    · replace hm := if_f c_1 hm
      refine lv_aload_n hx hb d_Heap_size_60 rfl (lv_at hl 0 rfl) ?_
      refine va_get (D := (dC, dI)) (ci := 1) (v := .ref ((o 0))) (C := R_Heap) (T := F_Heap) (N := 12) hx hb htt iw_Heap hown hK hP 1 xo_1 rfl 5 (Nat.le_of_ble_eq_true rfl) (htt _ lk_Heap_11) (fun _ h9 => h9) xg_1_5 d_Heap_size_61 ?_
      refine lv_iload hx hb d_Heap_size_64 (lv_at hl 2 rfl) ?_
      obtain ⟨h_2, hm⟩ := ck_some hm
      refine va_iald hx hb hK hP 12 0 twA_0 rfl h_2 d_Heap_size_66 ?_
      refine lv_if_eq (tgt := 79) hx hb d_Heap_size_67 (by decide) (fun c_3 => ?_) (fun c_3 => ?_)
      · replace hm := if_t c_3 hm
        refine lv_iload_n hx hb d_Heap_size_79 rfl (lv_at hl 1 rfl) ?_
        have e3 := re1 hm
        exact W.iret hx hb hr (fun t9 ht hW => ⟨⟨_, (), rfl, e3.symm, trivial⟩, hS.F ht⟩) hS.2.2 d_Heap_size_80
      · replace hm := if_f c_3 hm
        obtain ⟨x_4, ex_4⟩ : ∃ y9 : Int32, y9 = v3 + 1 := ⟨_, rfl⟩
        replace hm := ob1_at ex_4 hm
        refine lv_iinc (v := x_4) (lv' := [(3, .int x_4), (0, .ref ((u 1))), (4, .int v4)]) hx hb d_Heap_size_70 hl (k := 1) rfl (by rw [ex_4]; rfl) (by decide) rfl (fun ls hl => ?_)
        obtain ⟨x_5, ex_5⟩ : ∃ y9 : Int32, y9 = v4 + 1 := ⟨_, rfl⟩
        replace hm := ob1_at ex_5 hm
        refine lv_iinc (v := x_5) (lv' := [(4, .int x_5), (3, .int x_4), (0, .ref ((u 1)))]) hx hb d_Heap_size_73 hl (k := 2) rfl (by rw [ex_5]; rfl) (by decide) rfl (fun ls hl => ?_)
        refine lv_goto (tgt := 50) hx hb d_Heap_size_76 (by decide) ?_
        exact ih _ _ hm _ _ _ hP hS (lv_sub hl [2, 1, 0] rfl)
def m_Heap_size (n : Nat) (g : Nat → Nat) (i : Nat → Int32) (a : Nat → Nat → Int32) (v1 : Int32) : Option (Int32) := ob1 (v1 >>> ((2 : Int32) &&& 31) : Int32) (fun x_1 => if ((v1 &&& 1)) = ((0 : Int32)) then some 1 else if x_1 ≤ ((0 : Int32)) then some 1 else if x_1 < ((nI (g 0))) then if ((v1 &&& 3)) = ((1 : Int32)) then ck x_1 (g 0) (some (((a 0 x_1.toNatClampNeg) &&& ((-1073741825))) >>> ((13 : Int32) &&& 31))) else m_Heap_size_b50 n g i a n (0 : Int32) x_1 else some 1)
set_option maxHeartbeats 4000000 in
set_option maxRecDepth 100000 in
theorem x_Heap_size (l : Launch) (dC : Nat → ClassId) (dI : Nat → Nat → Nat) (cI : ClassId) (adK adV adA u o g : Nat → Nat) (sz : Nat) (n : Nat) {i : Nat → Int32} {a : Nat → Nat → Int32} {v1 : Int32} {r2 : Int32} (hm : m_Heap_size n g i a v1 = some r2) : Met l y_Heap_size w_Heap_size ({ frames := 0, cells := 0, slots := 0, locals := 0 } : Room) (va_Pc [.ref ((u 1)), .int v1] (xEr dC dI cI adK adV adA u o g i a sz)) (va_Qi (xR r2) xT (xN sz)) 0 0 (xN sz) := by
  refine Met.ofW (cc := b_Heap_size) (maxL := 5) (ret := (some .int)) (by decide) rfl ?_
  intro p e s m args below meth c s₁ B hml hv
  obtain ⟨rfl, hsz, hP, hK, hE⟩ := hv
  have hx := B.exec
  have hb := B.bytes
  have hr := B.returns
  have hts := atoms_spec (ws := w_Heap_size) B.pre
  have htt : ∀ w ∈ tw_T, w.before _ s = true := fun w h => hts w (List.mem_cons_of_mem _ h)
  have hown : s.vm.findClass R_Heap = some m.cls := findClass_of_methodNamed B.named
  have hlocks := B.notSynchronized
  subst hsz
  generalize hAe : xN s.heap.size = A at hE ⊢
  have hA : ∀ q : Nat, s.heap.size ≤ q → A q := fun q h => by rw [← hAe]; exact Or.inr h
  have hS : va_S A s.heap s.heap [] := va_S.rf
  have hl := lv_entry ([.ref ((u 1)), .int v1]) (n := 5) (Nat.le_of_ble_eq_true rfl)
  rw [lg_entry_eq]
  generalize (lg_sl ([.ref ((u 1)), .int v1]) ++ List.replicate (5 - (lg_sl ([.ref ((u 1)), .int v1])).length) Slot.unset).toArray = ls at hl ⊢
  have hl : lv_has ls 5 [(0, .ref ((u 1))), (1, .int v1)] := hl
  rw [m_Heap_size] at hm
  refine lv_iload_n hx hb d_Heap_size_0 rfl (lv_at hl 1 rfl) ?_
  refine lv_iconst (v := 2) hx hb d_Heap_size_1 (by decide) ?_
  refine lv_ishr hx hb d_Heap_size_2 ?_
  refine lv_topi (fun x_1 ex_1 => ?_)
  replace hm := ob1_at ex_1 hm
  refine lv_istore_n (lv' := [(2, .int x_1), (0, .ref ((u 1))), (1, .int v1)]) hx hb d_Heap_size_3 rfl hl (by decide) rfl (fun ls hl => ?_)
  refine lv_iload_n hx hb d_Heap_size_4 rfl (lv_at hl 2 rfl) ?_
  refine lv_iconst (v := 1) hx hb d_Heap_size_5 (by decide) ?_
  refine lv_iand hx hb d_Heap_size_6 ?_
  refine lv_if_eq (tgt := 23) hx hb d_Heap_size_7 (by decide) (fun c_2 => ?_) (fun c_2 => ?_)
  · replace hm := if_t c_2 hm
    refine lv_iconst (v := 1) hx hb d_Heap_size_23 (by decide) ?_
    have e3 := re1 hm
    exact W.iret hx hb hr (fun t9 ht hW => ⟨⟨_, (), rfl, e3.symm, trivial⟩, hS.F ht⟩) hS.2.2 d_Heap_size_24
  · replace hm := if_f c_2 hm
    refine lv_iload_n hx hb d_Heap_size_10 rfl (lv_at hl 0 rfl) ?_
    refine lv_if_le (tgt := 23) hx hb d_Heap_size_11 (by decide) (fun c_3 => ?_) (fun c_3 => ?_)
    · replace hm := if_t c_3 hm
      refine lv_iconst (v := 1) hx hb d_Heap_size_23 (by decide) ?_
      have e3 := re1 hm
      exact W.iret hx hb hr (fun t9 ht hW => ⟨⟨_, (), rfl, e3.symm, trivial⟩, hS.F ht⟩) hS.2.2 d_Heap_size_24
    · replace hm := if_f c_3 hm
      refine lv_iload_n hx hb d_Heap_size_14 rfl (lv_at hl 0 rfl) ?_
      refine lv_aload_n hx hb d_Heap_size_15 rfl (lv_at hl 1 rfl) ?_
      refine va_get (D := (dC, dI)) (ci := 1) (v := .ref ((o 0))) (C := R_Heap) (T := F_Heap) (N := 12) hx hb htt iw_Heap hown hK hP 1 xo_1 rfl 5 (Nat.le_of_ble_eq_true rfl) (htt _ lk_Heap_11) (fun _ h9 => h9) xg_1_5 d_Heap_size_16 ?_
      refine va_alen (v := nI (g 0)) hx hb hK hP 12 0 twA_0 rfl rfl d_Heap_size_19 ?_
      refine lv_icmp_lt (tgt := 25) hx hb d_Heap_size_20 (by decide) (fun c_4 => ?_) (fun c_4 => ?_)
      · replace hm := if_t c_4 hm
        refine lv_iload_n hx hb d_Heap_size_25 rfl (lv_at hl 2 rfl) ?_
        refine lv_iconst (v := 3) hx hb d_Heap_size_26 (by decide) ?_
        refine lv_iand hx hb d_Heap_size_27 ?_
        refine lv_iconst (v := 1) hx hb d_Heap_size_28 (by decide) ?_
        refine lv_icmp_ne (tgt := 45) hx hb d_Heap_size_29 (by decide) (fun c_5 => ?_) (fun c_5 => ?_)
        · replace hm := if_f c_5 hm
          refine lv_iconst (v := 0) hx hb d_Heap_size_45 (by decide) ?_
          refine lv_istore_n (lv' := [(3, .int 0), (2, .int x_1), (0, .ref ((u 1))), (1, .int v1)]) hx hb d_Heap_size_46 rfl hl (by decide) rfl (fun ls hl => ?_)
          refine lv_iload_n hx hb d_Heap_size_47 rfl (lv_at hl 1 rfl) ?_
          refine lv_istore (lv' := [(4, .int x_1), (3, .int 0), (2, .int x_1), (0, .ref ((u 1))), (1, .int v1)]) hx hb d_Heap_size_48 hl (by decide) rfl (fun ls hl => ?_)
          exact lb_Heap_size_50 l dC dI cI adK adV adA u o g n hx hb hml hown hts hK hE hA hr hlocks n _ _ hm _ _ _ hP hS (lv_sub hl [3, 1, 0] rfl)
        · replace hm := if_t c_5 hm
          refine lv_aload_n hx hb d_Heap_size_32 rfl (lv_at hl 1 rfl) ?_
          refine va_get (D := (dC, dI)) (ci := 1) (v := .ref ((o 0))) (C := R_Heap) (T := F_Heap) (N := 12) hx hb htt iw_Heap hown hK hP 1 xo_1 rfl 5 (Nat.le_of_ble_eq_true rfl) (htt _ lk_Heap_11) (fun _ h9 => h9) xg_1_5 d_Heap_size_33 ?_
          refine lv_iload_n hx hb d_Heap_size_36 rfl (lv_at hl 0 rfl) ?_
          obtain ⟨h_6, hm⟩ := ck_some hm
          refine va_iald hx hb hK hP 12 0 twA_0 rfl h_6 d_Heap_size_37 ?_
          refine lv_ldc (v := (-1073741825)) hx hb hown (htt _ lk_Heap_128) d_Heap_size_38 ?_
          refine lv_iand hx hb d_Heap_size_40 ?_
          refine lv_bipush (v := 13) hx hb d_Heap_size_41 (by decide) ?_
          refine lv_ishr hx hb d_Heap_size_43 ?_
          have e3 := re1 hm
          exact W.iret hx hb hr (fun t9 ht hW => ⟨⟨_, (), rfl, e3.symm, trivial⟩, hS.F ht⟩) hS.2.2 d_Heap_size_44
      · replace hm := if_f c_4 hm
        refine lv_iconst (v := 1) hx hb d_Heap_size_23 (by decide) ?_
        have e3 := re1 hm
        exact W.iret hx hb hr (fun t9 ht hW => ⟨⟨_, (), rfl, e3.symm, trivial⟩, hS.F ht⟩) hS.2.2 d_Heap_size_24

def m_Reader_addMember (n : Nat) (g : Nat → Nat) (i : Nat → Int32) (a : Nat → Nat → Int32) (v1 : Int32) : Option ((Nat → Int32) × (Nat → Nat → Int32) × Int32) := if ((600 : Int32)) ≤ ((i 28)) then some (i, a, (0 : Int32)) else ck ((i 28)) 600 (ob1 (sv a 32 (i 28).toNatClampNeg v1 : Nat → Nat → Int32) (fun a_3 => ob1 ((i 28) + 1 : Int32) (fun x_4 => ob1 (upd i 28 x_4 : Nat → Int32) (fun i_5 => some (i_5, a_3, (0 : Int32))))))
set_option maxHeartbeats 4000000 in
set_option maxRecDepth 100000 in
theorem x_Reader_addMember (l : Launch) (dC : Nat → ClassId) (dI : Nat → Nat → Nat) (cI : ClassId) (adK adV adA u o g : Nat → Nat) (sz : Nat) (n : Nat) {i : Nat → Int32} {a : Nat → Nat → Int32} {v1 : Int32} {i2 : Nat → Int32} {a2 : Nat → Nat → Int32} {r2 : Int32} (hm : m_Reader_addMember n g i a v1 = some (i2, a2, r2)) : Met l y_Reader_addMember w_Reader_addMember ({ frames := 0, cells := 0, slots := 0, locals := 0 } : Room) (va_Pc [.ref ((u 7)), .int v1] (xE dC dI cI adK adV adA u o g i a sz)) (va_Qv xV (xB dC dI cI u o g i2 a2 (va_A (TW cI u o i a g) sz)) (va_A (TW cI u o i a g) sz)) 0 0 ((va_A (TW cI u o i a g) sz)) := by
  refine Met.ofW (cc := b_Reader_addMember) (maxL := 2) (ret := none) (by decide) rfl ?_
  intro p e s m args below meth c s₁ B hml hv
  obtain ⟨rfl, hsz, hP, hK, hE, hD0⟩ := hv
  have hx := B.exec
  have hb := B.bytes
  have hr := B.returns
  have hts := atoms_spec (ws := w_Reader_addMember) B.pre
  have htt : ∀ w ∈ tw_T, w.before _ s = true := fun w h => hts w (List.mem_cons_of_mem _ h)
  have hown : s.vm.findClass R_Reader = some m.cls := findClass_of_methodNamed B.named
  have hlocks := B.notSynchronized
  subst hsz
  have hD := hD0.self (sz := s.heap.size)
  generalize hAe : (va_A (TW cI u o i a g) s.heap.size) = A at hD hE ⊢
  have hA : ∀ q : Nat, s.heap.size ≤ q → A q := fun q h => by rw [← hAe]; exact Or.inr h
  have hS : va_S A s.heap s.heap [] := va_S.rf
  have hl := lv_entry ([.ref ((u 7)), .int v1]) (n := 2) (Nat.le_of_ble_eq_true rfl)
  rw [lg_entry_eq]
  generalize (lg_sl ([.ref ((u 7)), .int v1]) ++ List.replicate (2 - (lg_sl ([.ref ((u 7)), .int v1])).length) Slot.unset).toArray = ls at hl ⊢
  have hl : lv_has ls 2 [(0, .ref ((u 7))), (1, .int v1)] := hl
  rw [m_Reader_addMember] at hm
  refine lv_aload_n hx hb d_Reader_addMember_0 rfl (lv_at hl 0 rfl) ?_
  refine va_get (D := (dC, dI)) (ci := 7) (v := .int (i 28)) (C := R_Reader) (T := F_Reader) (N := 19) hx hb htt iw_Reader hown hK hP 7 xo_7 rfl 8 (Nat.le_of_ble_eq_true rfl) (htt _ lk_Reader_75) (fun _ h9 => h9) xg_7_8 d_Reader_addMember_1 ?_
  refine lv_sipush (v := 600) hx hb d_Reader_addMember_4 (by decide) ?_
  refine lv_icmp_ge (tgt := 30) hx hb d_Reader_addMember_7 (by decide) (fun c_1 => ?_) (fun c_1 => ?_)
  · replace hm := if_t c_1 hm
    obtain ⟨e1i, e1a, e3⟩ := re3 hm
    obtain ⟨hP, hD⟩ := x_eq e1i e1a hP hD
    exact W.vret hx hb hr (fun t9 ht hW => ⟨⟨(), rfl, trivial, by rw [ht]; exact hP, hD⟩, hS.F ht⟩) hS.2.2 d_Reader_addMember_30
  · replace hm := if_f c_1 hm
    refine lv_aload_n hx hb d_Reader_addMember_10 rfl (lv_at hl 0 rfl) ?_
    refine va_get (D := (dC, dI)) (ci := 7) (v := .ref ((u 42))) (C := R_Reader) (T := F_Reader) (N := 19) hx hb htt iw_Reader hown hK hP 7 xo_7 rfl 7 (Nat.le_of_ble_eq_true rfl) (htt _ lk_Reader_15) (fun _ h9 => h9) xg_7_7 d_Reader_addMember_11 ?_
    refine lv_aload_n hx hb d_Reader_addMember_14 rfl (lv_at hl 0 rfl) ?_
    refine va_get (D := (dC, dI)) (ci := 7) (v := .int (i 28)) (C := R_Reader) (T := F_Reader) (N := 19) hx hb htt iw_Reader hown hK hP 7 xo_7 rfl 8 (Nat.le_of_ble_eq_true rfl) (htt _ lk_Reader_75) (fun _ h9 => h9) xg_7_8 d_Reader_addMember_15 ?_
    refine lv_iload_n hx hb d_Reader_addMember_18 rfl (lv_at hl 1 rfl) ?_
    obtain ⟨h_2, hm⟩ := ck_some hm
    refine va_iast hx hb hK hP hD hS 44 0 twA_32 rfl h_2 d_Reader_addMember_19 (fun H locs hP hD hS => ?_)
    obtain ⟨a_3, ea_3⟩ : ∃ y9 : Nat → Nat → Int32, y9 = sv a 32 (i 28).toNatClampNeg v1 := ⟨_, rfl⟩
    replace hm := ob1_at ea_3 hm
    obtain ⟨hP, hD⟩ := xv_32 ea_3 hP hD
    refine lv_aload_n hx hb d_Reader_addMember_20 rfl (lv_at hl 0 rfl) ?_
    refine lv_dup hx hb d_Reader_addMember_21 rfl ?_
    refine va_get (D := (dC, dI)) (ci := 7) (v := .int (i 28)) (C := R_Reader) (T := F_Reader) (N := 19) hx hb htt iw_Reader hown hK hP 7 xo_7 rfl 8 (Nat.le_of_ble_eq_true rfl) (htt _ lk_Reader_75) (fun _ h9 => h9) xg_7_8 d_Reader_addMember_22 ?_
    refine lv_iconst (v := 1) hx hb d_Reader_addMember_25 (by decide) ?_
    refine lv_iadd hx hb d_Reader_addMember_26 ?_
    refine lv_topi (fun x_4 ex_4 => ?_)
    replace hm := ob1_at ex_4 hm
    refine va_put (D := (dC, dI)) (ci := 7) (v := .int x_4) (ty := .int) (C := R_Reader) (T := F_Reader) (N := 19) hx hb htt iw_Reader t_Reader t_Reader_ok n_Reader hown hK hP hD hS 7 xo_7 rfl 8 (Nat.le_of_ble_eq_true rfl) (htt _ lk_Reader_75) (fun _ h9 => h9) rfl (by decide +kernel) rfl rfl xl_7_8 d_Reader_addMember_27 (fun H locs hP hD hS => ?_)
    obtain ⟨i_5, ei_5⟩ : ∃ y9 : Nat → Int32, y9 = upd i 28 x_4 := ⟨_, rfl⟩
    replace hm := ob1_at ei_5 hm
    obtain ⟨hP, hD⟩ := xw_28 ei_5 hP hD
    obtain ⟨e1i, e1a, e3⟩ := re3 hm
    obtain ⟨hP, hD⟩ := x_eq e1i e1a hP hD
    exact W.vret hx hb hr (fun t9 ht hW => ⟨⟨(), rfl, trivial, by rw [ht]; exact hP, hD⟩, hS.F ht⟩) hS.2.2 d_Reader_addMember_30

def m_Heap_number (n : Nat) (v0 : Int32) : Option (Int32) := some (v0 <<< ((1 : Int32) &&& 31))
set_option maxHeartbeats 4000000 in
set_option maxRecDepth 100000 in
theorem x_Heap_number (l : Launch) (sz : Nat) (n : Nat) {v0 : Int32} {r2 : Int32} (hm : m_Heap_number n v0 = some r2) : Met l y_Heap_number w_Heap_number ({ frames := 0, cells := 0, slots := 0, locals := 0 } : Room) (va_Pc [.int v0] (xE0 sz)) (va_Qi (xR r2) xT (xN sz)) 0 0 (xN sz) := by
  refine Met.ofW (cc := b_Heap_number) (maxL := 1) (ret := (some .int)) (by decide) rfl ?_
  intro p e s m args below meth c s₁ B hml hv
  obtain ⟨rfl, hsz⟩ := hv
  have hx := B.exec
  have hb := B.bytes
  have hr := B.returns
  have hts := atoms_spec (ws := w_Heap_number) B.pre
  have htt : ∀ w ∈ tw_T, w.before _ s = true := fun w h => hts w (List.mem_cons_of_mem _ h)
  have hown : s.vm.findClass R_Heap = some m.cls := findClass_of_methodNamed B.named
  have hlocks := B.notSynchronized
  subst hsz
  generalize hAe : xN s.heap.size = A
  have hA : ∀ q : Nat, s.heap.size ≤ q → A q := fun q h => by rw [← hAe]; exact Or.inr h
  have hS : va_S A s.heap s.heap [] := va_S.rf
  have hl := lv_entry ([.int v0]) (n := 1) (Nat.le_of_ble_eq_true rfl)
  rw [lg_entry_eq]
  generalize (lg_sl ([.int v0]) ++ List.replicate (1 - (lg_sl ([.int v0])).length) Slot.unset).toArray = ls at hl ⊢
  have hl : lv_has ls 1 [(0, .int v0)] := hl
  rw [m_Heap_number] at hm
  refine lv_iload_n hx hb d_Heap_number_0 rfl (lv_at hl 0 rfl) ?_
  refine lv_iconst (v := 1) hx hb d_Heap_number_1 (by decide) ?_
  refine lv_ishl hx hb d_Heap_number_2 ?_
  have e3 := re1 hm
  exact W.iret hx hb hr (fun t9 ht hW => ⟨⟨_, (), rfl, e3.symm, trivial⟩, hS.F ht⟩) hS.2.2 d_Heap_number_3

def m_Heap_isWord (n : Nat) (v0 : Int32) : Option (Int32) := if ((v0 &&& 3)) = ((3 : Int32)) then some 1 else some 0
set_option maxHeartbeats 4000000 in
set_option maxRecDepth 100000 in
theorem x_Heap_isWord (l : Launch) (sz : Nat) (n : Nat) {v0 : Int32} {r2 : Int32} (hm : m_Heap_isWord n v0 = some r2) : Met l y_Heap_isWord w_Heap_isWord ({ frames := 0, cells := 0, slots := 0, locals := 0 } : Room) (va_Pc [.int v0] (xE0 sz)) (va_Qi (xR r2) xT (xN sz)) 0 0 (xN sz) := by
  refine Met.ofW (cc := b_Heap_isWord) (maxL := 1) (ret := (some .boolean)) (by decide) rfl ?_
  intro p e s m args below meth c s₁ B hml hv
  obtain ⟨rfl, hsz⟩ := hv
  have hx := B.exec
  have hb := B.bytes
  have hr := B.returns
  have hts := atoms_spec (ws := w_Heap_isWord) B.pre
  have htt : ∀ w ∈ tw_T, w.before _ s = true := fun w h => hts w (List.mem_cons_of_mem _ h)
  have hown : s.vm.findClass R_Heap = some m.cls := findClass_of_methodNamed B.named
  have hlocks := B.notSynchronized
  subst hsz
  generalize hAe : xN s.heap.size = A
  have hA : ∀ q : Nat, s.heap.size ≤ q → A q := fun q h => by rw [← hAe]; exact Or.inr h
  have hS : va_S A s.heap s.heap [] := va_S.rf
  have hl := lv_entry ([.int v0]) (n := 1) (Nat.le_of_ble_eq_true rfl)
  rw [lg_entry_eq]
  generalize (lg_sl ([.int v0]) ++ List.replicate (1 - (lg_sl ([.int v0])).length) Slot.unset).toArray = ls at hl ⊢
  have hl : lv_has ls 1 [(0, .int v0)] := hl
  rw [m_Heap_isWord] at hm
  refine lv_iload_n hx hb d_Heap_isWord_0 rfl (lv_at hl 0 rfl) ?_
  refine lv_iconst (v := 3) hx hb d_Heap_isWord_1 (by decide) ?_
  refine lv_iand hx hb d_Heap_isWord_2 ?_
  refine lv_iconst (v := 3) hx hb d_Heap_isWord_3 (by decide) ?_
  refine lv_icmp_ne (tgt := 11) hx hb d_Heap_isWord_4 (by decide) (fun c_1 => ?_) (fun c_1 => ?_)
  · replace hm := if_f c_1 hm
    refine lv_iconst (v := 0) hx hb d_Heap_isWord_11 (by decide) ?_
    have e3 := re1 hm
    exact W.zret hx hb hr (by decide) (fun t9 ht hW => ⟨⟨_, (), rfl, e3.symm, trivial⟩, hS.F ht⟩) hS.2.2 d_Heap_isWord_12
  · replace hm := if_t c_1 hm
    refine lv_iconst (v := 1) hx hb d_Heap_isWord_7 (by decide) ?_
    refine lv_goto (tgt := 12) hx hb d_Heap_isWord_8 (by decide) ?_
    have e3 := re1 hm
    exact W.zret hx hb hr (by decide) (fun t9 ht hW => ⟨⟨_, (), rfl, e3.symm, trivial⟩, hS.F ht⟩) hS.2.2 d_Heap_isWord_12

def m_Heap_sameWord_b30 (n : Nat) (g : Nat → Nat) (i : Nat → Int32) (a : Nat → Nat → Int32) : Nat → Int32 → Int32 → Int32 → Option (Int32)
  | 0, _, _, _ => none
  | f + 1, v3, v4, v5 => if ((nI (g 0))) ≤ ((v3 + v5)) then some 0 else if ((nI (g 0))) ≤ ((v4 + v5)) then some 0 else ck ((v3 + v5)) (g 0) (ob1 (a 0 (v3 + v5).toNatClampNeg : Int32) (fun x_4 => ck ((v4 + v5)) (g 0) (if x_4 = ((a 0 (v4 + v5).toNatClampNeg)) then if x_4 = ((0 : Int32)) then some 1 else ob1 (v5 + 1 : Int32) (fun x_8 => m_Heap_sameWord_b30 n g i a f v3 v4 x_8) else some 0)))
set_option maxHeartbeats 4000000 in
set_option maxRecDepth 100000 in
theorem lb_Heap_sameWord_30 (l : Launch) (dC : Nat → ClassId) (dI : Nat → Nat → Nat) (cI : ClassId) (adK adV adA u o g : Nat → Nat) (n : Nat) {p : Program} {e : Env} {s : State} {m : MethodId} {args : Array Value} {below : List Frame} {meth : Method} {c : Code} {A : Nat → Prop} (hx : p.tables.exec = Jvm.exec) (hb : c.code = b_Heap_sameWord) (hml : c.maxLocals = 7) (hown : s.vm.findClass R_Heap = some m.cls) (hts : ∀ w ∈ w_Heap_sameWord, w.before args s = true) (hK : va_K (dC, dI) classes [(cI, .int)] s) (hE : tw_E adK adV adA A s s.heap) (hA : ∀ q : Nat, s.heap.size ≤ q → A q) (hr : meth.sig.returnType = (some .boolean)) (hlocks : meth.locks = false) {i : Nat → Int32} {a : Nat → Nat → Int32} {r2 : Int32} : ∀ (f : Nat) (v3 : Int32) (v4 : Int32) (v5 : Int32), m_Heap_sameWord_b30 n g i a f v3 v4 v5 = some r2 → ∀ (H : Heap) (locs : List Loc) (ls : Array Slot), va_P (dC, dI) classes (TW cI u o i a g) H → va_S A s.heap H locs → lv_has ls 7 [(0, .ref ((u 1))), (3, .int v3), (4, .int v4), (5, .int v5)] → W p l e ({ frames := 0, cells := 0, slots := 0, locals := 0 } : Room) s m args below meth c H locs 0 0 (MQ below (va_Qi (xR r2) xT A) args s 0 0 A) (F0 m 30 ls []) := by
  have htt : ∀ w ∈ tw_T, w.before _ s = true := fun w h => hts w (List.mem_cons_of_mem _ h)
  intro f
  induction f with
  | zero =>
    intro v3 v4 v5 hm
    rw [m_Heap_sameWord_b30] at hm
    cases hm
  | succ f ih =>
    intro v3 v4 v5 hm H locs ls hP hS hl
    rw [m_Heap_sameWord_b30] at hm
    refine lv_iload_n hx hb d_Heap_sameWord_30 rfl (lv_at hl 1 rfl) ?_
    refine lv_iload hx hb d_Heap_sameWord_31 (lv_at hl 3 rfl) ?_
    refine lv_iadd hx hb d_Heap_sameWord_33 ?_
    refine lv_aload_n hx hb d_Heap_sameWord_34 rfl (lv_at hl 0 rfl) ?_
    refine va_get (D := (dC, dI)) (ci := 1) (v := .ref ((o 0))) (C := R_Heap) (T := F_Heap) (N := 12) hx hb htt iw_Heap hown hK hP 1 xo_1 rfl 5 (Nat.le_of_ble_eq_true rfl) (htt _ lk_Heap_11) (fun _ h9 => h9) xg_1_5 d_Heap_sameWord_35 ?_
    refine va_alen (v := nI (g 0)) hx hb hK hP 12 0 twA_0 rfl rfl d_Heap_sameWord_38 ?_
    refine lv_icmp_ge (tgt := 96) hx hb d_Heap_sameWord_39 (by decide) (fun c_1 => ?_) (fun c_1 => ?_)
    · replace hm := if_t c_1 hm
      refine lv_iconst (v := 0) hx hb d_Heap_sameWord_96 (by decide) ?_
      have e3 := re1 hm
      exact W.zret hx hb hr (by decide) (fun t9 ht hW => ⟨⟨_, (), rfl, e3.symm, trivial⟩, hS.F ht⟩) hS.2.2 d_Heap_sameWord_97
    · replace hm := if_f c_1 hm
      refine lv_iload hx hb d_Heap_sameWord_42 (lv_at hl 2 rfl) ?_
      refine lv_iload hx hb d_Heap_sameWord_44 (lv_at hl 3 rfl) ?_
      refine lv_iadd hx hb d_Heap_sameWord_46 ?_
      refine lv_aload_n hx hb d_Heap_sameWord_47 rfl (lv_at hl 0 rfl) ?_
      refine va_get (D := (dC, dI)) (ci := 1) (v := .ref ((o 0))) (C := R_Heap) (T := F_Heap) (N := 12) hx hb htt iw_Heap hown hK hP 1 xo_1 rfl 5 (Nat.le_of_ble_eq_true rfl) (htt _ lk_Heap_11) (fun _ h9 => h9) xg_1_5 d_Heap_sameWord_48 ?_
      refine va_alen (v := nI (g 0)) hx hb hK hP 12 0 twA_0 rfl rfl d_Heap_sameWord_51 ?_
      refine lv_icmp_ge (tgt := 96) hx hb d_Heap_sameWord_52 (by decide) (fun c_2 => ?_) (fun c_2 => ?_)
      · replace hm := if_t c_2 hm
        refine lv_iconst (v := 0) hx hb d_Heap_sameWord_96 (by decide) ?_
        have e3 := re1 hm
        exact W.zret hx hb hr (by decide) (fun t9 ht hW => ⟨⟨_, (), rfl, e3.symm, trivial⟩, hS.F ht⟩) hS.2.2 d_Heap_sameWord_97
      · replace hm := if_f c_2 hm
        refine lv_aload_n hx hb d_Heap_sameWord_55 rfl (lv_at hl 0 rfl) ?_
        refine va_get (D := (dC, dI)) (ci := 1) (v := .ref ((o 0))) (C := R_Heap) (T := F_Heap) (N := 12) hx hb htt iw_Heap hown hK hP 1 xo_1 rfl 5 (Nat.le_of_ble_eq_true rfl) (htt _ lk_Heap_11) (fun _ h9 => h9) xg_1_5 d_Heap_sameWord_56 ?_
        refine lv_iload_n hx hb d_Heap_sameWord_59 rfl (lv_at hl 1 rfl) ?_
        refine lv_iload hx hb d_Heap_sameWord_60 (lv_at hl 3 rfl) ?_
        refine lv_iadd hx hb d_Heap_sameWord_62 ?_
        obtain ⟨h_3, hm⟩ := ck_some hm
        refine va_iald hx hb hK hP 12 0 twA_0 rfl h_3 d_Heap_sameWord_63 ?_
        refine lv_topi (fun x_4 ex_4 => ?_)
        replace hm := ob1_at ex_4 hm
        refine lv_istore (lv' := [(6, .int x_4), (0, .ref ((u 1))), (3, .int v3), (4, .int v4), (5, .int v5)]) hx hb d_Heap_sameWord_64 hl (by decide) rfl (fun ls hl => ?_)
        refine lv_iload hx hb d_Heap_sameWord_66 (lv_at hl 0 rfl) ?_
        refine lv_aload_n hx hb d_Heap_sameWord_68 rfl (lv_at hl 1 rfl) ?_
        refine va_get (D := (dC, dI)) (ci := 1) (v := .ref ((o 0))) (C := R_Heap) (T := F_Heap) (N := 12) hx hb htt iw_Heap hown hK hP 1 xo_1 rfl 5 (Nat.le_of_ble_eq_true rfl) (htt _ lk_Heap_11) (fun _ h9 => h9) xg_1_5 d_Heap_sameWord_69 ?_
        refine lv_iload hx hb d_Heap_sameWord_72 (lv_at hl 3 rfl) ?_
        refine lv_iload hx hb d_Heap_sameWord_74 (lv_at hl 4 rfl) ?_
        refine lv_iadd hx hb d_Heap_sameWord_76 ?_
        obtain ⟨h_5, hm⟩ := ck_some hm
        refine va_iald hx hb hK hP 12 0 twA_0 rfl h_5 d_Heap_sameWord_77 ?_
        refine lv_icmp_eq (tgt := 83) hx hb d_Heap_sameWord_78 (by decide) (fun c_6 => ?_) (fun c_6 => ?_)
        · replace hm := if_t c_6 hm
          refine lv_iload hx hb d_Heap_sameWord_83 (lv_at hl 0 rfl) ?_
          refine lv_if_ne (tgt := 90) hx hb d_Heap_sameWord_85 (by decide) (fun c_7 => ?_) (fun c_7 => ?_)
          · replace hm := if_f c_7 hm
            obtain ⟨x_8, ex_8⟩ : ∃ y9 : Int32, y9 = v5 + 1 := ⟨_, rfl⟩
            replace hm := ob1_at ex_8 hm
            refine lv_iinc (v := x_8) (lv' := [(5, .int x_8), (6, .int x_4), (0, .ref ((u 1))), (3, .int v3), (4, .int v4)]) hx hb d_Heap_sameWord_90 hl (k := 4) rfl (by rw [ex_8]; rfl) (by decide) rfl (fun ls hl => ?_)
            refine lv_goto (tgt := 30) hx hb d_Heap_sameWord_93 (by decide) ?_
            exact ih _ _ _ hm _ _ _ hP hS (lv_sub hl [2, 3, 4, 0] rfl)
          · replace hm := if_t c_7 hm
            refine lv_iconst (v := 1) hx hb d_Heap_sameWord_88 (by decide) ?_
            have e3 := re1 hm
            exact W.zret hx hb hr (by decide) (fun t9 ht hW => ⟨⟨_, (), rfl, e3.symm, trivial⟩, hS.F ht⟩) hS.2.2 d_Heap_sameWord_89
        · replace hm := if_f c_6 hm
          refine lv_iconst (v := 0) hx hb d_Heap_sameWord_81 (by decide) ?_
          have e3 := re1 hm
          exact W.zret hx hb hr (by decide) (fun t9 ht hW => ⟨⟨_, (), rfl, e3.symm, trivial⟩, hS.F ht⟩) hS.2.2 d_Heap_sameWord_82
def m_Heap_sameWord (n : Nat) (g : Nat → Nat) (i : Nat → Int32) (a : Nat → Nat → Int32) (v1 : Int32) (v2 : Int32) : Option (Int32) := if v1 = v2 then some 1 else ob1 (v1 >>> ((2 : Int32) &&& 31) : Int32) (fun x_2 => ob1 (v2 >>> ((2 : Int32) &&& 31) : Int32) (fun x_3 => if x_2 ≤ ((0 : Int32)) then some 0 else if ((0 : Int32)) < x_3 then m_Heap_sameWord_b30 n g i a n x_2 x_3 (0 : Int32) else some 0))
set_option maxHeartbeats 4000000 in
set_option maxRecDepth 100000 in
theorem x_Heap_sameWord (l : Launch) (dC : Nat → ClassId) (dI : Nat → Nat → Nat) (cI : ClassId) (adK adV adA u o g : Nat → Nat) (sz : Nat) (n : Nat) {i : Nat → Int32} {a : Nat → Nat → Int32} {v1 : Int32} {v2 : Int32} {r2 : Int32} (hm : m_Heap_sameWord n g i a v1 v2 = some r2) : Met l y_Heap_sameWord w_Heap_sameWord ({ frames := 0, cells := 0, slots := 0, locals := 0 } : Room) (va_Pc [.ref ((u 1)), .int v1, .int v2] (xEr dC dI cI adK adV adA u o g i a sz)) (va_Qi (xR r2) xT (xN sz)) 0 0 (xN sz) := by
  refine Met.ofW (cc := b_Heap_sameWord) (maxL := 7) (ret := (some .boolean)) (by decide) rfl ?_
  intro p e s m args below meth c s₁ B hml hv
  obtain ⟨rfl, hsz, hP, hK, hE⟩ := hv
  have hx := B.exec
  have hb := B.bytes
  have hr := B.returns
  have hts := atoms_spec (ws := w_Heap_sameWord) B.pre
  have htt : ∀ w ∈ tw_T, w.before _ s = true := fun w h => hts w (List.mem_cons_of_mem _ h)
  have hown : s.vm.findClass R_Heap = some m.cls := findClass_of_methodNamed B.named
  have hlocks := B.notSynchronized
  subst hsz
  generalize hAe : xN s.heap.size = A at hE ⊢
  have hA : ∀ q : Nat, s.heap.size ≤ q → A q := fun q h => by rw [← hAe]; exact Or.inr h
  have hS : va_S A s.heap s.heap [] := va_S.rf
  have hl := lv_entry ([.ref ((u 1)), .int v1, .int v2]) (n := 7) (Nat.le_of_ble_eq_true rfl)
  rw [lg_entry_eq]
  generalize (lg_sl ([.ref ((u 1)), .int v1, .int v2]) ++ List.replicate (7 - (lg_sl ([.ref ((u 1)), .int v1, .int v2])).length) Slot.unset).toArray = ls at hl ⊢
  have hl : lv_has ls 7 [(0, .ref ((u 1))), (1, .int v1), (2, .int v2)] := hl
  rw [m_Heap_sameWord] at hm
  refine lv_iload_n hx hb d_Heap_sameWord_0 rfl (lv_at hl 1 rfl) ?_
  refine lv_iload_n hx hb d_Heap_sameWord_1 rfl (lv_at hl 2 rfl) ?_
  refine lv_icmp_ne (tgt := 7) hx hb d_Heap_sameWord_2 (by decide) (fun c_1 => ?_) (fun c_1 => ?_)
  · replace hm := if_f c_1 hm
    refine lv_iload_n hx hb d_Heap_sameWord_7 rfl (lv_at hl 1 rfl) ?_
    refine lv_iconst (v := 2) hx hb d_Heap_sameWord_8 (by decide) ?_
    refine lv_ishr hx hb d_Heap_sameWord_9 ?_
    refine lv_topi (fun x_2 ex_2 => ?_)
    replace hm := ob1_at ex_2 hm
    refine lv_istore_n (lv' := [(3, .int x_2), (0, .ref ((u 1))), (1, .int v1), (2, .int v2)]) hx hb d_Heap_sameWord_10 rfl hl (by decide) rfl (fun ls hl => ?_)
    refine lv_iload_n hx hb d_Heap_sameWord_11 rfl (lv_at hl 3 rfl) ?_
    refine lv_iconst (v := 2) hx hb d_Heap_sameWord_12 (by decide) ?_
    refine lv_ishr hx hb d_Heap_sameWord_13 ?_
    refine lv_topi (fun x_3 ex_3 => ?_)
    replace hm := ob1_at ex_3 hm
    refine lv_istore (lv' := [(4, .int x_3), (3, .int x_2), (0, .ref ((u 1))), (1, .int v1), (2, .int v2)]) hx hb d_Heap_sameWord_14 hl (by decide) rfl (fun ls hl => ?_)
    refine lv_iload_n hx hb d_Heap_sameWord_16 rfl (lv_at hl 1 rfl) ?_
    refine lv_if_le (tgt := 25) hx hb d_Heap_sameWord_17 (by decide) (fun c_4 => ?_) (fun c_4 => ?_)
    · replace hm := if_t c_4 hm
      refine lv_iconst (v := 0) hx hb d_Heap_sameWord_25 (by decide) ?_
      have e3 := re1 hm
      exact W.zret hx hb hr (by decide) (fun t9 ht hW => ⟨⟨_, (), rfl, e3.symm, trivial⟩, hS.F ht⟩) hS.2.2 d_Heap_sameWord_26
    · replace hm := if_f c_4 hm
      refine lv_iload hx hb d_Heap_sameWord_20 (lv_at hl 0 rfl) ?_
      refine lv_if_gt (tgt := 27) hx hb d_Heap_sameWord_22 (by decide) (fun c_5 => ?_) (fun c_5 => ?_)
      · replace hm := if_t c_5 hm
        refine lv_iconst (v := 0) hx hb d_Heap_sameWord_27 (by decide) ?_
        refine lv_istore (lv' := [(5, .int 0), (4, .int x_3), (3, .int x_2), (0, .ref ((u 1))), (1, .int v1), (2, .int v2)]) hx hb d_Heap_sameWord_28 hl (by decide) rfl (fun ls hl => ?_)
        exact lb_Heap_sameWord_30 l dC dI cI adK adV adA u o g n hx hb hml hown hts hK hE hA hr hlocks n _ _ _ hm _ _ _ hP hS (lv_sub hl [3, 2, 1, 0] rfl)
      · replace hm := if_f c_5 hm
        refine lv_iconst (v := 0) hx hb d_Heap_sameWord_25 (by decide) ?_
        have e3 := re1 hm
        exact W.zret hx hb hr (by decide) (fun t9 ht hW => ⟨⟨_, (), rfl, e3.symm, trivial⟩, hS.F ht⟩) hS.2.2 d_Heap_sameWord_26
  · replace hm := if_t c_1 hm
    refine lv_iconst (v := 1) hx hb d_Heap_sameWord_5 (by decide) ?_
    have e3 := re1 hm
    exact W.zret hx hb hr (by decide) (fun t9 ht hW => ⟨⟨_, (), rfl, e3.symm, trivial⟩, hS.F ht⟩) hS.2.2 d_Heap_sameWord_6

def m_Heap_behind (n : Nat) (g : Nat → Nat) (i : Nat → Int32) (a : Nat → Nat → Int32) (v1 : Int32) : Option (Int32) := ob1 ((v1 >>> ((2 : Int32) &&& 31)) + 1 : Int32) (fun x_1 => if x_1 ≤ ((1 : Int32)) then some ((-2147483648)) else if ((nI (g 0))) ≤ x_1 then some ((-2147483648)) else ck x_1 (g 0) (if ((a 0 x_1.toNatClampNeg)) = ((0 : Int32)) then some ((-2147483648)) else some ((x_1 <<< ((2 : Int32) &&& 31)) ||| 3)))
set_option maxHeartbeats 4000000 in
set_option maxRecDepth 100000 in
theorem x_Heap_behind (l : Launch) (dC : Nat → ClassId) (dI : Nat → Nat → Nat) (cI : ClassId) (adK adV adA u o g : Nat → Nat) (sz : Nat) (n : Nat) {i : Nat → Int32} {a : Nat → Nat → Int32} {v1 : Int32} {r2 : Int32} (hm : m_Heap_behind n g i a v1 = some r2) : Met l y_Heap_behind w_Heap_behind ({ frames := 0, cells := 0, slots := 0, locals := 0 } : Room) (va_Pc [.ref ((u 1)), .int v1] (xEr dC dI cI adK adV adA u o g i a sz)) (va_Qi (xR r2) xT (xN sz)) 0 0 (xN sz) := by
  refine Met.ofW (cc := b_Heap_behind) (maxL := 3) (ret := (some .int)) (by decide) rfl ?_
  intro p e s m args below meth c s₁ B hml hv
  obtain ⟨rfl, hsz, hP, hK, hE⟩ := hv
  have hx := B.exec
  have hb := B.bytes
  have hr := B.returns
  have hts := atoms_spec (ws := w_Heap_behind) B.pre
  have htt : ∀ w ∈ tw_T, w.before _ s = true := fun w h => hts w (List.mem_cons_of_mem _ h)
  have hown : s.vm.findClass R_Heap = some m.cls := findClass_of_methodNamed B.named
  have hlocks := B.notSynchronized
  subst hsz
  generalize hAe : xN s.heap.size = A at hE ⊢
  have hA : ∀ q : Nat, s.heap.size ≤ q → A q := fun q h => by rw [← hAe]; exact Or.inr h
  have hS : va_S A s.heap s.heap [] := va_S.rf
  have hl := lv_entry ([.ref ((u 1)), .int v1]) (n := 3) (Nat.le_of_ble_eq_true rfl)
  rw [lg_entry_eq]
  generalize (lg_sl ([.ref ((u 1)), .int v1]) ++ List.replicate (3 - (lg_sl ([.ref ((u 1)), .int v1])).length) Slot.unset).toArray = ls at hl ⊢
  have hl : lv_has ls 3 [(0, .ref ((u 1))), (1, .int v1)] := hl
  rw [m_Heap_behind] at hm
  refine lv_iload_n hx hb d_Heap_behind_0 rfl (lv_at hl 1 rfl) ?_
  refine lv_iconst (v := 2) hx hb d_Heap_behind_1 (by decide) ?_
  refine lv_ishr hx hb d_Heap_behind_2 ?_
  refine lv_iconst (v := 1) hx hb d_Heap_behind_3 (by decide) ?_
  refine lv_iadd hx hb d_Heap_behind_4 ?_
  refine lv_topi (fun x_1 ex_1 => ?_)
  replace hm := ob1_at ex_1 hm
  refine lv_istore_n (lv' := [(2, .int x_1), (0, .ref ((u 1))), (1, .int v1)]) hx hb d_Heap_behind_5 rfl hl (by decide) rfl (fun ls hl => ?_)
  refine lv_iload_n hx hb d_Heap_behind_6 rfl (lv_at hl 0 rfl) ?_
  refine lv_iconst (v := 1) hx hb d_Heap_behind_7 (by decide) ?_
  refine lv_icmp_le (tgt := 37) hx hb d_Heap_behind_8 (by decide) (fun c_2 => ?_) (fun c_2 => ?_)
  · replace hm := if_t c_2 hm
    refine lv_ldc (v := (-2147483648)) hx hb hown (htt _ lk_Heap_71) d_Heap_behind_37 ?_
    have e3 := re1 hm
    exact W.iret hx hb hr (fun t9 ht hW => ⟨⟨_, (), rfl, e3.symm, trivial⟩, hS.F ht⟩) hS.2.2 d_Heap_behind_39
  · replace hm := if_f c_2 hm
    refine lv_iload_n hx hb d_Heap_behind_11 rfl (lv_at hl 0 rfl) ?_
    refine lv_aload_n hx hb d_Heap_behind_12 rfl (lv_at hl 1 rfl) ?_
    refine va_get (D := (dC, dI)) (ci := 1) (v := .ref ((o 0))) (C := R_Heap) (T := F_Heap) (N := 12) hx hb htt iw_Heap hown hK hP 1 xo_1 rfl 5 (Nat.le_of_ble_eq_true rfl) (htt _ lk_Heap_11) (fun _ h9 => h9) xg_1_5 d_Heap_behind_13 ?_
    refine va_alen (v := nI (g 0)) hx hb hK hP 12 0 twA_0 rfl rfl d_Heap_behind_16 ?_
    refine lv_icmp_ge (tgt := 37) hx hb d_Heap_behind_17 (by decide) (fun c_3 => ?_) (fun c_3 => ?_)
    · replace hm := if_t c_3 hm
      refine lv_ldc (v := (-2147483648)) hx hb hown (htt _ lk_Heap_71) d_Heap_behind_37 ?_
      have e3 := re1 hm
      exact W.iret hx hb hr (fun t9 ht hW => ⟨⟨_, (), rfl, e3.symm, trivial⟩, hS.F ht⟩) hS.2.2 d_Heap_behind_39
    · replace hm := if_f c_3 hm
      refine lv_aload_n hx hb d_Heap_behind_20 rfl (lv_at hl 1 rfl) ?_
      refine va_get (D := (dC, dI)) (ci := 1) (v := .ref ((o 0))) (C := R_Heap) (T := F_Heap) (N := 12) hx hb htt iw_Heap hown hK hP 1 xo_1 rfl 5 (Nat.le_of_ble_eq_true rfl) (htt _ lk_Heap_11) (fun _ h9 => h9) xg_1_5 d_Heap_behind_21 ?_
      refine lv_iload_n hx hb d_Heap_behind_24 rfl (lv_at hl 0 rfl) ?_
      obtain ⟨h_4, hm⟩ := ck_some hm
      refine va_iald hx hb hK hP 12 0 twA_0 rfl h_4 d_Heap_behind_25 ?_
      refine lv_if_eq (tgt := 37) hx hb d_Heap_behind_26 (by decide) (fun c_5 => ?_) (fun c_5 => ?_)
      · replace hm := if_t c_5 hm
        refine lv_ldc (v := (-2147483648)) hx hb hown (htt _ lk_Heap_71) d_Heap_behind_37 ?_
        have e3 := re1 hm
        exact W.iret hx hb hr (fun t9 ht hW => ⟨⟨_, (), rfl, e3.symm, trivial⟩, hS.F ht⟩) hS.2.2 d_Heap_behind_39
      · replace hm := if_f c_5 hm
        refine lv_iload_n hx hb d_Heap_behind_29 rfl (lv_at hl 0 rfl) ?_
        refine lv_iconst (v := 2) hx hb d_Heap_behind_30 (by decide) ?_
        refine lv_ishl hx hb d_Heap_behind_31 ?_
        refine lv_iconst (v := 3) hx hb d_Heap_behind_32 (by decide) ?_
        refine lv_ior hx hb d_Heap_behind_33 ?_
        refine lv_goto (tgt := 39) hx hb d_Heap_behind_34 (by decide) ?_
        have e3 := re1 hm
        exact W.iret hx hb hr (fun t9 ht hW => ⟨⟨_, (), rfl, e3.symm, trivial⟩, hS.F ht⟩) hS.2.2 d_Heap_behind_39

def m_Heap_beginCollecting (n : Nat) (g : Nat → Nat) (i : Nat → Int32) (a : Nat → Nat → Int32)  : Option ((Nat → Int32) × (Nat → Nat → Int32) × Int32) := cy ((0 : Int32)) ((0 : Int32)) (i 7) (g 0) (g 1) (ob1 (updA a 1 (va_cpy (a 0) (a 1) (0 : Int32).toNatClampNeg (0 : Int32).toNatClampNeg (i 7).toNatClampNeg) : Nat → Nat → Int32) (fun a_2 => ob1 (i 7 : Int32) (fun x_3 => ob1 (upd i 9 x_3 : Nat → Int32) (fun i_4 => some (i_4, a_2, (0 : Int32))))))
set_option maxHeartbeats 4000000 in
set_option maxRecDepth 100000 in
theorem x_Heap_beginCollecting (l : Launch) (dC : Nat → ClassId) (dI : Nat → Nat → Nat) (cI : ClassId) (adK adV adA u o g : Nat → Nat) (sz : Nat) (n : Nat) {i : Nat → Int32} {a : Nat → Nat → Int32}  {i2 : Nat → Int32} {a2 : Nat → Nat → Int32} {r2 : Int32} (hm : m_Heap_beginCollecting n g i a = some (i2, a2, r2)) : Met l y_Heap_beginCollecting w_Heap_beginCollecting ({ frames := 1, cells := 0, slots := 0, locals := 40 } : Room) (va_Pc [.ref ((u 1))] (xE dC dI cI adK adV adA u o g i a sz)) (va_Qv xV (xB dC dI cI u o g i2 a2 (va_A (TW cI u o i a g) sz)) (va_A (TW cI u o i a g) sz)) 0 0 ((va_A (TW cI u o i a g) sz)) := by
  refine Met.ofW (cc := b_Heap_beginCollecting) (maxL := 1) (ret := none) (by decide) rfl ?_
  intro p e s m args below meth c s₁ B hml hv
  obtain ⟨rfl, hsz, hP, hK, hE, hD0⟩ := hv
  have hx := B.exec
  have hb := B.bytes
  have hr := B.returns
  have hts := atoms_spec (ws := w_Heap_beginCollecting) B.pre
  have htt : ∀ w ∈ tw_T, w.before _ s = true := fun w h => hts w (List.mem_cons_of_mem _ h)
  have hown : s.vm.findClass R_Heap = some m.cls := findClass_of_methodNamed B.named
  have hlocks := B.notSynchronized
  subst hsz
  have hD := hD0.self (sz := s.heap.size)
  generalize hAe : (va_A (TW cI u o i a g) s.heap.size) = A at hD hE ⊢
  have hA : ∀ q : Nat, s.heap.size ≤ q → A q := fun q h => by rw [← hAe]; exact Or.inr h
  have hS : va_S A s.heap s.heap [] := va_S.rf
  have hl := lv_entry ([.ref ((u 1))]) (n := 1) (Nat.le_of_ble_eq_true rfl)
  rw [lg_entry_eq]
  generalize (lg_sl ([.ref ((u 1))]) ++ List.replicate (1 - (lg_sl ([.ref ((u 1))])).length) Slot.unset).toArray = ls at hl ⊢
  have hl : lv_has ls 1 [(0, .ref ((u 1)))] := hl
  rw [m_Heap_beginCollecting] at hm
  refine lv_aload_n hx hb d_Heap_beginCollecting_0 rfl (lv_at hl 0 rfl) ?_
  refine va_get (D := (dC, dI)) (ci := 1) (v := .ref ((o 0))) (C := R_Heap) (T := F_Heap) (N := 12) hx hb htt iw_Heap hown hK hP 1 xo_1 rfl 5 (Nat.le_of_ble_eq_true rfl) (htt _ lk_Heap_11) (fun _ h9 => h9) xg_1_5 d_Heap_beginCollecting_1 ?_
  refine lv_iconst (v := 0) hx hb d_Heap_beginCollecting_4 (by decide) ?_
  refine lv_aload_n hx hb d_Heap_beginCollecting_5 rfl (lv_at hl 0 rfl) ?_
  refine va_get (D := (dC, dI)) (ci := 1) (v := .ref ((o 1))) (C := R_Heap) (T := F_Heap) (N := 12) hx hb htt iw_Heap hown hK hP 1 xo_1 rfl 6 (Nat.le_of_ble_eq_true rfl) (htt _ lk_Heap_15) (fun _ h9 => h9) xg_1_6 d_Heap_beginCollecting_6 ?_
  refine lv_iconst (v := 0) hx hb d_Heap_beginCollecting_9 (by decide) ?_
  refine lv_aload_n hx hb d_Heap_beginCollecting_10 rfl (lv_at hl 0 rfl) ?_
  refine va_get (D := (dC, dI)) (ci := 1) (v := .int (i 7)) (C := R_Heap) (T := F_Heap) (N := 12) hx hb htt iw_Heap hown hK hP 1 xo_1 rfl 4 (Nat.le_of_ble_eq_true rfl) (htt _ lk_Heap_54) (fun _ h9 => h9) xg_1_4 d_Heap_beginCollecting_11 ?_
  obtain ⟨h_1a, h_1b, h_1c, h_1d, h_1e, hm⟩ := cy_some hm
  refine va_copyi hx hb (by rw [hml]; exact hl.1.symm) hown (htt _ lk_Heap_106) (htt _ na_arraycopy) (htt _ st_arraycopy) (htt _ ini_System) hK hP hD hS 12 13 0 0 (ty := .int) twA_0 twA_1 rfl rfl rfl h_1a h_1b h_1c h_1d h_1e (fun _ _ => rfl) (Nat.le_of_ble_eq_true rfl) (Nat.le_of_ble_eq_true rfl) d_Heap_beginCollecting_14 (fun H locs hP hD hS => ?_)
  obtain ⟨a_2, ea_2⟩ : ∃ y9 : Nat → Nat → Int32, y9 = updA a 1 (va_cpy (a 0) (a 1) (0 : Int32).toNatClampNeg (0 : Int32).toNatClampNeg (i 7).toNatClampNeg) := ⟨_, rfl⟩
  replace hm := ob1_at ea_2 hm
  obtain ⟨hP, hD⟩ := xv_1 ea_2 hP hD
  refine lv_aload_n hx hb d_Heap_beginCollecting_17 rfl (lv_at hl 0 rfl) ?_
  refine lv_aload_n hx hb d_Heap_beginCollecting_18 rfl (lv_at hl 0 rfl) ?_
  refine va_get (D := (dC, dI)) (ci := 1) (v := .int (i 7)) (C := R_Heap) (T := F_Heap) (N := 12) hx hb htt iw_Heap hown hK hP 1 xo_1 rfl 4 (Nat.le_of_ble_eq_true rfl) (htt _ lk_Heap_54) (fun _ h9 => h9) xg_1_4 d_Heap_beginCollecting_19 ?_
  refine lv_topi (fun x_3 ex_3 => ?_)
  replace hm := ob1_at ex_3 hm
  refine va_put (D := (dC, dI)) (ci := 1) (v := .int x_3) (ty := .int) (C := R_Heap) (T := F_Heap) (N := 12) hx hb htt iw_Heap t_Heap t_Heap_ok n_Heap hown hK hP hD hS 1 xo_1 rfl 8 (Nat.le_of_ble_eq_true rfl) (htt _ lk_Heap_153) (fun _ h9 => h9) rfl (by decide +kernel) rfl rfl xl_1_8 d_Heap_beginCollecting_22 (fun H locs hP hD hS => ?_)
  obtain ⟨i_4, ei_4⟩ : ∃ y9 : Nat → Int32, y9 = upd i 9 x_3 := ⟨_, rfl⟩
  replace hm := ob1_at ei_4 hm
  obtain ⟨hP, hD⟩ := xw_9 ei_4 hP hD
  obtain ⟨e1i, e1a, e3⟩ := re3 hm
  obtain ⟨hP, hD⟩ := x_eq e1i e1a hP hD
  exact W.vret hx hb hr (fun t9 ht hW => ⟨⟨(), rfl, trivial, by rw [ht]; exact hP, hD⟩, hS.F ht⟩) hS.2.2 d_Heap_beginCollecting_25

def m_Heap_isNumber (n : Nat) (v0 : Int32) : Option (Int32) := if ((v0 &&& 1)) = ((0 : Int32)) then some 1 else some 0
set_option maxHeartbeats 4000000 in
set_option maxRecDepth 100000 in
theorem x_Heap_isNumber (l : Launch) (sz : Nat) (n : Nat) {v0 : Int32} {r2 : Int32} (hm : m_Heap_isNumber n v0 = some r2) : Met l y_Heap_isNumber w_Heap_isNumber ({ frames := 0, cells := 0, slots := 0, locals := 0 } : Room) (va_Pc [.int v0] (xE0 sz)) (va_Qi (xR r2) xT (xN sz)) 0 0 (xN sz) := by
  refine Met.ofW (cc := b_Heap_isNumber) (maxL := 1) (ret := (some .boolean)) (by decide) rfl ?_
  intro p e s m args below meth c s₁ B hml hv
  obtain ⟨rfl, hsz⟩ := hv
  have hx := B.exec
  have hb := B.bytes
  have hr := B.returns
  have hts := atoms_spec (ws := w_Heap_isNumber) B.pre
  have htt : ∀ w ∈ tw_T, w.before _ s = true := fun w h => hts w (List.mem_cons_of_mem _ h)
  have hown : s.vm.findClass R_Heap = some m.cls := findClass_of_methodNamed B.named
  have hlocks := B.notSynchronized
  subst hsz
  generalize hAe : xN s.heap.size = A
  have hA : ∀ q : Nat, s.heap.size ≤ q → A q := fun q h => by rw [← hAe]; exact Or.inr h
  have hS : va_S A s.heap s.heap [] := va_S.rf
  have hl := lv_entry ([.int v0]) (n := 1) (Nat.le_of_ble_eq_true rfl)
  rw [lg_entry_eq]
  generalize (lg_sl ([.int v0]) ++ List.replicate (1 - (lg_sl ([.int v0])).length) Slot.unset).toArray = ls at hl ⊢
  have hl : lv_has ls 1 [(0, .int v0)] := hl
  rw [m_Heap_isNumber] at hm
  refine lv_iload_n hx hb d_Heap_isNumber_0 rfl (lv_at hl 0 rfl) ?_
  refine lv_iconst (v := 1) hx hb d_Heap_isNumber_1 (by decide) ?_
  refine lv_iand hx hb d_Heap_isNumber_2 ?_
  refine lv_if_ne (tgt := 10) hx hb d_Heap_isNumber_3 (by decide) (fun c_1 => ?_) (fun c_1 => ?_)
  · replace hm := if_f c_1 hm
    refine lv_iconst (v := 0) hx hb d_Heap_isNumber_10 (by decide) ?_
    have e3 := re1 hm
    exact W.zret hx hb hr (by decide) (fun t9 ht hW => ⟨⟨_, (), rfl, e3.symm, trivial⟩, hS.F ht⟩) hS.2.2 d_Heap_isNumber_11
  · replace hm := if_t c_1 hm
    refine lv_iconst (v := 1) hx hb d_Heap_isNumber_6 (by decide) ?_
    refine lv_goto (tgt := 11) hx hb d_Heap_isNumber_7 (by decide) ?_
    have e3 := re1 hm
    exact W.zret hx hb hr (by decide) (fun t9 ht hW => ⟨⟨_, (), rfl, e3.symm, trivial⟩, hS.F ht⟩) hS.2.2 d_Heap_isNumber_11

def m_Heap_isList (n : Nat) (v0 : Int32) : Option (Int32) := if ((v0 &&& 3)) = ((1 : Int32)) then some 1 else some 0
set_option maxHeartbeats 4000000 in
set_option maxRecDepth 100000 in
theorem x_Heap_isList (l : Launch) (sz : Nat) (n : Nat) {v0 : Int32} {r2 : Int32} (hm : m_Heap_isList n v0 = some r2) : Met l y_Heap_isList w_Heap_isList ({ frames := 0, cells := 0, slots := 0, locals := 0 } : Room) (va_Pc [.int v0] (xE0 sz)) (va_Qi (xR r2) xT (xN sz)) 0 0 (xN sz) := by
  refine Met.ofW (cc := b_Heap_isList) (maxL := 1) (ret := (some .boolean)) (by decide) rfl ?_
  intro p e s m args below meth c s₁ B hml hv
  obtain ⟨rfl, hsz⟩ := hv
  have hx := B.exec
  have hb := B.bytes
  have hr := B.returns
  have hts := atoms_spec (ws := w_Heap_isList) B.pre
  have htt : ∀ w ∈ tw_T, w.before _ s = true := fun w h => hts w (List.mem_cons_of_mem _ h)
  have hown : s.vm.findClass R_Heap = some m.cls := findClass_of_methodNamed B.named
  have hlocks := B.notSynchronized
  subst hsz
  generalize hAe : xN s.heap.size = A
  have hA : ∀ q : Nat, s.heap.size ≤ q → A q := fun q h => by rw [← hAe]; exact Or.inr h
  have hS : va_S A s.heap s.heap [] := va_S.rf
  have hl := lv_entry ([.int v0]) (n := 1) (Nat.le_of_ble_eq_true rfl)
  rw [lg_entry_eq]
  generalize (lg_sl ([.int v0]) ++ List.replicate (1 - (lg_sl ([.int v0])).length) Slot.unset).toArray = ls at hl ⊢
  have hl : lv_has ls 1 [(0, .int v0)] := hl
  rw [m_Heap_isList] at hm
  refine lv_iload_n hx hb d_Heap_isList_0 rfl (lv_at hl 0 rfl) ?_
  refine lv_iconst (v := 3) hx hb d_Heap_isList_1 (by decide) ?_
  refine lv_iand hx hb d_Heap_isList_2 ?_
  refine lv_iconst (v := 1) hx hb d_Heap_isList_3 (by decide) ?_
  refine lv_icmp_ne (tgt := 11) hx hb d_Heap_isList_4 (by decide) (fun c_1 => ?_) (fun c_1 => ?_)
  · replace hm := if_f c_1 hm
    refine lv_iconst (v := 0) hx hb d_Heap_isList_11 (by decide) ?_
    have e3 := re1 hm
    exact W.zret hx hb hr (by decide) (fun t9 ht hW => ⟨⟨_, (), rfl, e3.symm, trivial⟩, hS.F ht⟩) hS.2.2 d_Heap_isList_12
  · replace hm := if_t c_1 hm
    refine lv_iconst (v := 1) hx hb d_Heap_isList_7 (by decide) ?_
    refine lv_goto (tgt := 12) hx hb d_Heap_isList_8 (by decide) ?_
    have e3 := re1 hm
    exact W.zret hx hb hr (by decide) (fun t9 ht hW => ⟨⟨_, (), rfl, e3.symm, trivial⟩, hS.F ht⟩) hS.2.2 d_Heap_isList_12

def m_Heap_reserveSpare (n : Nat) (g : Nat → Nat) (i : Nat → Int32) (a : Nat → Nat → Int32) (v1 : Int32) : Option ((Nat → Int32) × (Nat → Nat → Int32) × (Nat → Nat) × (Nat × Nat) × Int32) := ob1 ((i 9) + v1 : Int32) (fun x_1 => if x_1 ≤ ((340000 : Int32)) then if x_1 ≤ ((nI (g 1))) then some (i, a, g, (0, 0), 1) else ob0 (m_Math_max n (2 * (nI (g 1))) x_1) (fun r_5 => ob0 (m_Math_min n (340000 : Int32) r_5) (fun r_9 => cg r_9 (m_Math_min_r (nI (g 1)) r_9) (g 1) (gw 1 r_9.toNatClampNeg (ob1 (updA a 1 (va_cpy (a 1) (fun _ => 0) 0 0 (m_Math_min_r (nI (g 1)) r_9).toNatClampNeg) : Nat → Nat → Int32) (fun a_17 => ob1 (updN g 1 r_9.toNatClampNeg : Nat → Nat) (fun g_18 => some (i, a_17, g_18, (0, 0), 1))))))) else some (i, a, g, (0, 0), 0))
set_option maxHeartbeats 4000000 in
set_option maxRecDepth 100000 in
theorem x_Heap_reserveSpare (l : Launch) (dC : Nat → ClassId) (dI : Nat → Nat → Nat) (cI : ClassId) (adK adV adA u o g : Nat → Nat) (sz : Nat) (n : Nat) {i : Nat → Int32} {a : Nat → Nat → Int32} {v1 : Int32} {i2 : Nat → Int32} {a2 : Nat → Nat → Int32} {g2 : Nat → Nat} {k2 : Nat × Nat} {r2 : Int32} (hm : m_Heap_reserveSpare n g i a v1 = some (i2, a2, g2, k2, r2)) : Met l y_Heap_reserveSpare w_Heap_reserveSpare ({ frames := 2, cells := k2.1, slots := k2.2, locals := 62 } : Room) (va_Pc [.ref ((u 1)), .int v1] (xE dC dI cI adK adV adA u o g i a sz)) (va_Qi (xRg r2) (xBg dC dI cI u g2 i2 a2 (va_A (TW cI u o i a g) sz)) (va_A (TW cI u o i a g) sz)) k2.1 k2.2 ((va_A (TW cI u o i a g) sz)) := by
  refine Met.ofW (cc := b_Heap_reserveSpare) (maxL := 3) (ret := (some .boolean)) (by decide) rfl ?_
  intro p e s m args below meth c s₁ B hml hv
  obtain ⟨rfl, hsz, hP, hK, hE, hD0⟩ := hv
  have hx := B.exec
  have hb := B.bytes
  have hr := B.returns
  have hts := atoms_spec (ws := w_Heap_reserveSpare) B.pre
  have htt : ∀ w ∈ tw_T, w.before _ s = true := fun w h => hts w (List.mem_cons_of_mem _ h)
  have hown : s.vm.findClass R_Heap = some m.cls := findClass_of_methodNamed B.named
  have hlocks := B.notSynchronized
  subst hsz
  have hD := hD0.self (sz := s.heap.size)
  generalize hAe : (va_A (TW cI u o i a g) s.heap.size) = A at hD hE ⊢
  have hA : ∀ q : Nat, s.heap.size ≤ q → A q := fun q h => by rw [← hAe]; exact Or.inr h
  have hS : va_S A s.heap s.heap [] := va_S.rf
  obtain ⟨mc, ms, emc, ems⟩ : ∃ mc ms : Nat, k2.1 = mc ∧ k2.2 = ms := ⟨_, _, rfl, rfl⟩
  have hkc : 0 + k2.1 = mc := by rw [Nat.zero_add]; exact emc
  have hks : 0 + k2.2 = ms := by rw [Nat.zero_add]; exact ems
  rw [emc, ems]
  clear emc ems
  have hl := lv_entry ([.ref ((u 1)), .int v1]) (n := 3) (Nat.le_of_ble_eq_true rfl)
  rw [lg_entry_eq]
  generalize (lg_sl ([.ref ((u 1)), .int v1]) ++ List.replicate (3 - (lg_sl ([.ref ((u 1)), .int v1])).length) Slot.unset).toArray = ls at hl ⊢
  have hl : lv_has ls 3 [(0, .ref ((u 1))), (1, .int v1)] := hl
  rw [m_Heap_reserveSpare] at hm
  refine lv_aload_n hx hb d_Heap_reserveSpare_0 rfl (lv_at hl 0 rfl) ?_
  refine va_get (D := (dC, dI)) (ci := 1) (v := .int (i 9)) (C := R_Heap) (T := F_Heap) (N := 12) hx hb htt iw_Heap hown hK hP 1 xo_1 rfl 8 (Nat.le_of_ble_eq_true rfl) (htt _ lk_Heap_153) (fun _ h9 => h9) xg_1_8 d_Heap_reserveSpare_1 ?_
  refine lv_iload_n hx hb d_Heap_reserveSpare_4 rfl (lv_at hl 1 rfl) ?_
  refine lv_iadd hx hb d_Heap_reserveSpare_5 ?_
  refine lv_topi (fun x_1 ex_1 => ?_)
  replace hm := ob1_at ex_1 hm
  refine lv_istore_n (lv' := [(2, .int x_1), (0, .ref ((u 1))), (1, .int v1)]) hx hb d_Heap_reserveSpare_6 rfl hl (by decide) rfl (fun ls hl => ?_)
  refine lv_iload_n hx hb d_Heap_reserveSpare_7 rfl (lv_at hl 0 rfl) ?_
  refine lv_ldc (v := 340000) hx hb hown (htt _ lk_Heap_89) d_Heap_reserveSpare_8 ?_
  refine lv_icmp_le (tgt := 15) hx hb d_Heap_reserveSpare_10 (by decide) (fun c_2 => ?_) (fun c_2 => ?_)
  · replace hm := if_t c_2 hm
    refine lv_iload_n hx hb d_Heap_reserveSpare_15 rfl (lv_at hl 0 rfl) ?_
    refine lv_aload_n hx hb d_Heap_reserveSpare_16 rfl (lv_at hl 1 rfl) ?_
    refine va_get (D := (dC, dI)) (ci := 1) (v := .ref ((o 1))) (C := R_Heap) (T := F_Heap) (N := 12) hx hb htt iw_Heap hown hK hP 1 xo_1 rfl 6 (Nat.le_of_ble_eq_true rfl) (htt _ lk_Heap_15) (fun _ h9 => h9) xg_1_6 d_Heap_reserveSpare_17 ?_
    refine va_alen (v := nI (g 1)) hx hb hK hP 13 0 twA_1 rfl rfl d_Heap_reserveSpare_20 ?_
    refine lv_icmp_le (tgt := 51) hx hb d_Heap_reserveSpare_21 (by decide) (fun c_3 => ?_) (fun c_3 => ?_)
    · replace hm := if_t c_3 hm
      refine lv_iconst (v := 1) hx hb d_Heap_reserveSpare_51 (by decide) ?_
      obtain ⟨e1, e2, e4, e5, e6, e3⟩ := re5 hm
      obtain ⟨hP, hD⟩ := x_eqg e1 e2 e4 hP hD
      refine W.widen (k := mc) (n := ms) (show 0 ≤ mc by omega) (show 0 ≤ ms by omega) ?_
      exact W.zret hx hb hr (by decide) (fun t9 ht hW => ⟨⟨_, o, rfl, e3.symm, by rw [ht]; exact hP, hD⟩, hS.F ht⟩) hS.2.2 d_Heap_reserveSpare_52
    · replace hm := if_f c_3 hm
      refine lv_aload_n hx hb d_Heap_reserveSpare_24 rfl (lv_at hl 1 rfl) ?_
      refine lv_aload_n hx hb d_Heap_reserveSpare_25 rfl (lv_at hl 1 rfl) ?_
      refine va_get (D := (dC, dI)) (ci := 1) (v := .ref ((o 1))) (C := R_Heap) (T := F_Heap) (N := 12) hx hb htt iw_Heap hown hK hP 1 xo_1 rfl 6 (Nat.le_of_ble_eq_true rfl) (htt _ lk_Heap_15) (fun _ h9 => h9) xg_1_6 d_Heap_reserveSpare_26 ?_
      refine lv_ldc (v := 340000) hx hb hown (htt _ lk_Heap_89) d_Heap_reserveSpare_29 ?_
      refine lv_iconst (v := 2) hx hb d_Heap_reserveSpare_31 (by decide) ?_
      refine lv_aload_n hx hb d_Heap_reserveSpare_32 rfl (lv_at hl 1 rfl) ?_
      refine va_get (D := (dC, dI)) (ci := 1) (v := .ref ((o 1))) (C := R_Heap) (T := F_Heap) (N := 12) hx hb htt iw_Heap hown hK hP 1 xo_1 rfl 6 (Nat.le_of_ble_eq_true rfl) (htt _ lk_Heap_15) (fun _ h9 => h9) xg_1_6 d_Heap_reserveSpare_33 ?_
      refine va_alen (v := nI (g 1)) hx hb hK hP 13 0 twA_1 rfl rfl d_Heap_reserveSpare_36 ?_
      refine lv_imul hx hb d_Heap_reserveSpare_37 ?_
      refine lv_iload_n hx hb d_Heap_reserveSpare_38 rfl (lv_at hl 0 rfl) ?_
      obtain ⟨r_5, h_4, hm⟩ := ob0_some hm
      have hFc := x_free0 hS hA
      refine xg_calli (va_runS (As := [.int (2 * (nI (g 1))), .int x_1]) (rest := [.int 340000, .ref ((o 1)), .ref ((u 1))]) ⟨hx, hb, hml, hown, hts⟩ (x_Math_max l s.heap.size n h_4) (va_cwS 2 hts (tw_GS tw_cons cw_Math_max lk_Heap_90 st_Math_max ini_Math) rfl rfl rfl hd_Math_max ⟨Nat.le_of_ble_eq_true rfl, Nat.le_of_ble_eq_true rfl⟩) xpS0 rfl rfl hl.1 rfl (lv_room (Nat.le_of_ble_eq_true rfl)) d_Heap_reserveSpare_39 ⟨show 0 + 0 ≤ mc by omega, show 0 + 0 ≤ ms by omega⟩) hS (fun q _ h => hFc q h) hFc (fun kc_6 ks_7 r9 u9 t9 H locs ekc eks ht hvm e9 hB hz1 hk1 hS => ?_)
      replace hkc : kc_6 + k2.1 = mc := by omega
      replace hks : ks_7 + k2.2 = ms := by omega
      clear ekc eks
      have e9 : r_5 = r9 := e9
      subst e9
      replace hP := x_keep hP hk1
      clear hFc hk1 hz1 hvm hB ht
      obtain ⟨r_9, h_8, hm⟩ := ob0_some hm
      have hFc := x_free0 hS hA
      refine xg_calli (va_runS (As := [.int 340000, .int r_5]) (rest := [.ref ((o 1)), .ref ((u 1))]) ⟨hx, hb, hml, hown, hts⟩ (x_Math_min l H.size n h_8) (va_cwS 2 hts (tw_GS tw_cons cw_Math_min lk_Heap_94 st_Math_min ini_Math) rfl rfl rfl hd_Math_min ⟨Nat.le_of_ble_eq_true rfl, Nat.le_of_ble_eq_true rfl⟩) xpS0 rfl rfl hl.1 rfl (lv_room (Nat.le_of_ble_eq_true rfl)) d_Heap_reserveSpare_42 ⟨show kc_6 + 0 ≤ mc by omega, show ks_7 + 0 ≤ ms by omega⟩) hS (fun q _ h => hFc q h) hFc (fun kc_10 ks_11 r9 u9 t9 H locs ekc eks ht hvm e9 hB hz1 hk1 hS => ?_)
      replace hkc : kc_10 + k2.1 = mc := by omega
      replace hks : ks_11 + k2.2 = ms := by omega
      clear ekc eks
      have e9 : r_9 = r9 := e9
      subst e9
      replace hP := x_keep hP hk1
      clear hFc hk1 hz1 hvm hB ht
      obtain ⟨h_12n, h_12a, h_12b, h_12c, h_12d, h_12e, hm⟩ := cg_some hm
      obtain ⟨k_13, hm, e7, e8⟩ := gw_some hm
      have hPc := hP.sub (ws' := [(o 1, .inl (cI, (g 1), .inl (a 1)))]) [13] rfl
      have hDc := hD.sub (ws' := [(o 1, .inl (cI, (g 1), .inl (a 1)))]) [13] (by decide) rfl
      have hFc := va_free (wc := [(o 1, .inl (cI, (g 1), .inl (a 1)))]) hD hS hA [13] rfl
      refine va_callr (va_runS (As := [.ref (o 1), .int r_9]) (rest := [.ref (u 1)]) ⟨hx, hb, hml, hown, hts⟩ (c_Arrays_copyOf l dC dI H.size (o 1) cI (g 1) (a 1) r_9 h_12n h_12a h_12b h_12c h_12d h_12e) (va_cwS 2 hts (tw_GS tw_cons cw_Arrays_copyOf lk_Heap_96 st_Arrays_copyOf ini_Arrays) rfl rfl rfl (by decide +kernel) ⟨Nat.le_of_ble_eq_true rfl, Nat.le_of_ble_eq_true rfl⟩) ⟨fun a U g mk q => by obtain ⟨q0, q1, qP, qK, qD⟩ := q; exact ⟨q0, q1, qP, va_K.moved (u := U) (U := U.calling g mk a) (Vm.Alike.refl U.vm) qK, qD⟩, fun U hU hW => ⟨rfl, by rw [hU], by rw [hU]; exact hPc, va_K.moved hW.alike hK, hDc.weaken (fun _ _ _ _ => trivial)⟩⟩ rfl rfl hl.1 rfl (lv_room (Nat.le_of_ble_eq_true rfl)) d_Heap_reserveSpare_45 ⟨show kc_10 + 1 ≤ mc by omega, show ks_11 + r_9.toNatClampNeg ≤ ms by omega⟩) hS (fun q _ h => hFc q h) hFc (fun u9 q_16 t9 H locs ht hvm e9 hB hz1 hk1 hS => ?_)
      obtain ⟨kc_14, ekc⟩ : ∃ y9 : Nat, y9 = kc_10 + 1 := ⟨_, rfl⟩
      obtain ⟨ks_15, eks⟩ : ∃ y9 : Nat, y9 = ks_11 + r_9.toNatClampNeg := ⟨_, rfl⟩
      rw [← ekc, ← eks]
      replace hkc : kc_14 + k_13.1 = mc := by omega
      replace hks : ks_15 + k_13.2 = ms := by omega
      obtain ⟨hP1, hK1, hD1⟩ := hB
      rw [ht] at hP1
      obtain ⟨hP, hD⟩ := va_join (wr := [(u 0, .inr (0, xf_0 u o i)), (u 1, .inr (1, xf_1 u o i)), (u 2, .inr (2, xf_2 u o i)), (u 3, .inr (3, xf_3 u o i)), (u 4, .inr (4, xf_4 u o i)), (u 5, .inr (5, xf_5 u o i)), (u 6, .inr (6, xf_6 u o i)), (u 7, .inr (7, xf_7 u o i)), (u 8, .inr (8, xf_8 u o i)), (u 9, .inr (9, xf_9 u o i)), (u 10, .inr (10, xf_10 u o i)), (u 11, .inr (11, xf_11 u o i)), (o 0, .inl (cI, (g 0), .inl (a 0))), (u 12, .inl (cI, 700, .inl (a 2))), (u 13, .inl (cI, 700, .inl (a 3))), (u 14, .inl (cI, 700, .inl (a 4))), (u 15, .inl (cI, 600, .inl (a 5))), (u 16, .inl (cI, 86, .inl (a 6))), (u 17, .inl (cI, 86, .inl (a 7))), (u 18, .inl (cI, 258, .inl (a 8))), (u 19, .inl (cI, 256, .inl (a 9))), (u 20, .inl (cI, 64, .inl (a 10))), (u 21, .inl (cI, 64, .inl (a 11))), (u 22, .inl (cI, 1800, .inl (a 12))), (u 23, .inl (cI, 1800, .inl (a 13))), (u 24, .inl (cI, 64, .inl (a 14))), (u 25, .inl (cI, 40, .inl (a 15))), (u 26, .inl (cI, 40, .inl (a 16))), (u 27, .inl (cI, 40, .inl (a 17))), (u 28, .inl (cI, 40, .inl (a 18))), (u 29, .inl (cI, 40, .inl (a 19))), (u 30, .inl (cI, 56, .inl (a 20))), (u 31, .inl (cI, 4096, .inl (a 21))), (u 32, .inl (cI, 4, .inl (a 22))), (u 33, .inl (cI, 4, .inl (a 23))), (u 34, .inl (cI, 56, .inl (a 24))), (u 35, .inl (cI, 4096, .inl (a 25))), (u 36, .inl (cI, 2000, .inl (a 26))), (u 37, .inl (cI, 2000, .inl (a 27))), (u 38, .inl (cI, 8192, .inl (a 28))), (u 39, .inl (cI, 700, .inl (a 29))), (u 40, .inl (cI, 700, .inl (a 30))), (u 41, .inl (cI, 4000, .inl (a 31))), (u 42, .inl (cI, 600, .inl (a 32))), (u 43, .inl (cI, 20, .inl (a 33))), (u 44, .inl (cI, 200, .inl (a 34))), (u 45, .inl (cI, 200, .inl (a 35))), (u 46, .inl (cI, 200, .inl (a 36))), (u 47, .inl (cI, 150, .inl (a 37))), (u 48, .inl (cI, 150, .inl (a 38))), (u 49, .inl (cI, 150, .inl (a 39))), (u 50, .inl (cI, 150, .inl (a 40))), (u 51, .inl (cI, 150, .inl (a 41))), (u 52, .inl (cI, 150, .inl (a 42))), (u 53, .inl (cI, 150, .inl (a 43))), (u 54, .inl (cI, 150, .inl (a 44))), (u 55, .inl (cI, 150, .inl (a 45))), (u 56, .inl (cI, 150, .inl (a 46))), (u 57, .inl (cI, 401, .inl (a 47))), (u 58, .inl (cI, 401, .inl (a 48))), (u 59, .inl (cI, 401, .inl (a 49))), (u 60, .inl (cI, 401, .inl (a 50))), (u 61, .inl (cI, 401, .inl (a 51))), (u 62, .inl (cI, 401, .inl (a 52))), (u 63, .inl (cI, 401, .inl (a 53))), (u 64, .inl (cI, 32000, .inl (a 54)))]) (w1 := [(o 1, .inl (cI, (g 1), .inl (a 1))), (q_16, .inl (cI, r_9.toNatClampNeg, .inl (va_cpy (a 1) (fun _ => 0) 0 0 (m_Math_min_r (nI (g 1)) r_9).toNatClampNeg)))]) hP hD [13] [0, 1, 2, 3, 4, 5, 6, 7, 8, 9, 10, 11, 12, 14, 15, 16, 17, 18, 19, 20, 21, 22, 23, 24, 25, 26, 27, 28, 29, 30, 31, 32, 33, 34, 35, 36, 37, 38, 39, 40, 41, 42, 43, 44, 45, 46, 47, 48, 49, 50, 51, 52, 53, 54, 55, 56, 57, 58, 59, 60, 61, 62, 63, 64, 65, 66] rfl rfl (by decide) (by decide) hk1 hFc hP1 hD1
      clear hP1 hD1 hK1 hvm hz1 hk1 hFc hDc hPc ht ekc eks e7 e8
      refine va_put (D := (dC, dI)) (ci := 1) (v := .ref q_16) (ty := .array .int) (C := R_Heap) (T := F_Heap) (N := 12) hx hb htt iw_Heap t_Heap t_Heap_ok n_Heap hown hK hP hD hS 1 rfl rfl 6 (Nat.le_of_ble_eq_true rfl) (htt _ lk_Heap_15) (fun _ h9 => h9) rfl (by decide +kernel) rfl rfl (Nat.le_of_ble_eq_true rfl) d_Heap_reserveSpare_48 (fun H locs hP hD hS => ?_)
      obtain ⟨a_17, ea_17⟩ : ∃ y9 : Nat → Nat → Int32, y9 = updA a 1 (va_cpy (a 1) (fun _ => 0) 0 0 (m_Math_min_r (nI (g 1)) r_9).toNatClampNeg) := ⟨_, rfl⟩
      replace hm := ob1_at ea_17 hm
      obtain ⟨g_18, eg_18⟩ : ∃ y9 : Nat → Nat, y9 = updN g 1 r_9.toNatClampNeg := ⟨_, rfl⟩
      replace hm := ob1_at eg_18 hm
      replace hP := hP.sub (ws' := TW cI u (updN o 1 q_16) i (updA a 1 (va_cpy (a 1) (fun _ => 0) 0 0 (m_Math_min_r (nI (g 1)) r_9).toNatClampNeg)) (updN g 1 r_9.toNatClampNeg)) [0, 1, 2, 3, 4, 5, 6, 7, 8, 9, 10, 11, 12, 67, 13, 14, 15, 16, 17, 18, 19, 20, 21, 22, 23, 24, 25, 26, 27, 28, 29, 30, 31, 32, 33, 34, 35, 36, 37, 38, 39, 40, 41, 42, 43, 44, 45, 46, 47, 48, 49, 50, 51, 52, 53, 54, 55, 56, 57, 58, 59, 60, 61, 62, 63, 64, 65] rfl
      replace hD := hD.sub (ws' := TW cI u (updN o 1 q_16) i (updA a 1 (va_cpy (a 1) (fun _ => 0) 0 0 (m_Math_min_r (nI (g 1)) r_9).toNatClampNeg)) (updN g 1 r_9.toNatClampNeg)) [0, 1, 2, 3, 4, 5, 6, 7, 8, 9, 10, 11, 12, 67, 13, 14, 15, 16, 17, 18, 19, 20, 21, 22, 23, 24, 25, 26, 27, 28, 29, 30, 31, 32, 33, 34, 35, 36, 37, 38, 39, 40, 41, 42, 43, 44, 45, 46, 47, 48, 49, 50, 51, 52, 53, 54, 55, 56, 57, 58, 59, 60, 61, 62, 63, 64, 65] (by decide) rfl
      rw [← ea_17, ← eg_18] at hP hD
      generalize updN o 1 q_16 = o_19 at hP hD
      refine lv_iconst (v := 1) hx hb d_Heap_reserveSpare_51 (by decide) ?_
      obtain ⟨e1, e2, e4, e5, e6, e3⟩ := re5 hm
      obtain ⟨hP, hD⟩ := x_eqg e1 e2 e4 hP hD
      refine W.widen (k := mc) (n := ms) (show kc_14 ≤ mc by omega) (show ks_15 ≤ ms by omega) ?_
      exact W.zret hx hb hr (by decide) (fun t9 ht hW => ⟨⟨_, o_19, rfl, e3.symm, by rw [ht]; exact hP, hD⟩, hS.F ht⟩) hS.2.2 d_Heap_reserveSpare_52
  · replace hm := if_f c_2 hm
    refine lv_iconst (v := 0) hx hb d_Heap_reserveSpare_13 (by decide) ?_
    obtain ⟨e1, e2, e4, e5, e6, e3⟩ := re5 hm
    obtain ⟨hP, hD⟩ := x_eqg e1 e2 e4 hP hD
    refine W.widen (k := mc) (n := ms) (show 0 ≤ mc by omega) (show 0 ≤ ms by omega) ?_
    exact W.zret hx hb hr (by decide) (fun t9 ht hW => ⟨⟨_, o, rfl, e3.symm, by rw [ht]; exact hP, hD⟩, hS.F ht⟩) hS.2.2 d_Heap_reserveSpare_14

def m_Heap_behindWord_b6 (n : Nat) (g : Nat → Nat) (i : Nat → Int32) (a : Nat → Nat → Int32) : Nat → Int32 → Int32 → Option (Int32)
  | 0, _, _ => none
  | f + 1, v2, v3 => if ((i 9)) ≤ v3 then some (v2 + 1) else ck v3 (g 1) (if ((a 1 v3.toNatClampNeg)) = ((0 : Int32)) then some (v2 + 1) else ob1 (v2 + 1 : Int32) (fun x_4 => ob1 (v3 + 1 : Int32) (fun x_5 => m_Heap_behindWord_b6 n g i a f x_4 x_5)))
set_option maxHeartbeats 4000000 in
set_option maxRecDepth 100000 in
theorem lb_Heap_behindWord_6 (l : Launch) (dC : Nat → ClassId) (dI : Nat → Nat → Nat) (cI : ClassId) (adK adV adA u o g : Nat → Nat) (n : Nat) {p : Program} {e : Env} {s : State} {m : MethodId} {args : Array Value} {below : List Frame} {meth : Method} {c : Code} {A : Nat → Prop} (hx : p.tables.exec = Jvm.exec) (hb : c.code = b_Heap_behindWord) (hml : c.maxLocals = 4) (hown : s.vm.findClass R_Heap = some m.cls) (hts : ∀ w ∈ w_Heap_behindWord, w.before args s = true) (hK : va_K (dC, dI) classes [(cI, .int)] s) (hE : tw_E adK adV adA A s s.heap) (hA : ∀ q : Nat, s.heap.size ≤ q → A q) (hr : meth.sig.returnType = (some .int)) (hlocks : meth.locks = false) {i : Nat → Int32} {a : Nat → Nat → Int32} {r2 : Int32} : ∀ (f : Nat) (v2 : Int32) (v3 : Int32), m_Heap_behindWord_b6 n g i a f v2 v3 = some r2 → ∀ (H : Heap) (locs : List Loc) (ls : Array Slot), va_P (dC, dI) classes (TW cI u o i a g) H → va_S A s.heap H locs → lv_has ls 4 [(0, .ref ((u 1))), (2, .int v2), (3, .int v3)] → W p l e ({ frames := 0, cells := 0, slots := 0, locals := 0 } : Room) s m args below meth c H locs 0 0 (MQ below (va_Qi (xR r2) xT A) args s 0 0 A) (F0 m 6 ls []) := by
  have htt : ∀ w ∈ tw_T, w.before _ s = true := fun w h => hts w (List.mem_cons_of_mem _ h)
  intro f
  induction f with
  | zero =>
    intro v2 v3 hm
    rw [m_Heap_behindWord_b6] at hm
    cases hm
  | succ f ih =>
    intro v2 v3 hm H locs ls hP hS hl
    rw [m_Heap_behindWord_b6] at hm
    refine lv_iload_n hx hb d_Heap_behindWord_6 rfl (lv_at hl 2 rfl) ?_
    refine lv_aload_n hx hb d_Heap_behindWord_7 rfl (lv_at hl 0 rfl) ?_
    refine va_get (D := (dC, dI)) (ci := 1) (v := .int (i 9)) (C := R_Heap) (T := F_Heap) (N := 12) hx hb htt iw_Heap hown hK hP 1 xo_1 rfl 8 (Nat.le_of_ble_eq_true rfl) (htt _ lk_Heap_153) (fun _ h9 => h9) xg_1_8 d_Heap_behindWord_8 ?_
    refine lv_icmp_ge (tgt := 32) hx hb d_Heap_behindWord_11 (by decide) (fun c_1 => ?_) (fun c_1 => ?_)
    · replace hm := if_t c_1 hm
      refine lv_iload_n hx hb d_Heap_behindWord_32 rfl (lv_at hl 1 rfl) ?_
      refine lv_iconst (v := 1) hx hb d_Heap_behindWord_33 (by decide) ?_
      refine lv_iadd hx hb d_Heap_behindWord_34 ?_
      have e3 := re1 hm
      exact W.iret hx hb hr (fun t9 ht hW => ⟨⟨_, (), rfl, e3.symm, trivial⟩, hS.F ht⟩) hS.2.2 d_Heap_behindWord_35
    · replace hm := if_f c_1 hm
      refine lv_aload_n hx hb d_Heap_behindWord_14 rfl (lv_at hl 0 rfl) ?_
      refine va_get (D := (dC, dI)) (ci := 1) (v := .ref ((o 1))) (C := R_Heap) (T := F_Heap) (N := 12) hx hb htt iw_Heap hown hK hP 1 xo_1 rfl 6 (Nat.le_of_ble_eq_true rfl) (htt _ lk_Heap_15) (fun _ h9 => h9) xg_1_6 d_Heap_behindWord_15 ?_
      refine lv_iload_n hx hb d_Heap_behindWord_18 rfl (lv_at hl 2 rfl) ?_
      obtain ⟨h_2, hm⟩ := ck_some hm
      refine va_iald hx hb hK hP 13 0 twA_1 rfl h_2 d_Heap_behindWord_19 ?_
      refine lv_if_eq (tgt := 32) hx hb d_Heap_behindWord_20 (by decide) (fun c_3 => ?_) (fun c_3 => ?_)
      · replace hm := if_t c_3 hm
        refine lv_iload_n hx hb d_Heap_behindWord_32 rfl (lv_at hl 1 rfl) ?_
        refine lv_iconst (v := 1) hx hb d_Heap_behindWord_33 (by decide) ?_
        refine lv_iadd hx hb d_Heap_behindWord_34 ?_
        have e3 := re1 hm
        exact W.iret hx hb hr (fun t9 ht hW => ⟨⟨_, (), rfl, e3.symm, trivial⟩, hS.F ht⟩) hS.2.2 d_Heap_behindWord_35
      · replace hm := if_f c_3 hm
        obtain ⟨x_4, ex_4⟩ : ∃ y9 : Int32, y9 = v2 + 1 := ⟨_, rfl⟩
        replace hm := ob1_at ex_4 hm
        refine lv_iinc (v := x_4) (lv' := [(2, .int x_4), (0, .ref ((u 1))), (3, .int v3)]) hx hb d_Heap_behindWord_23 hl (k := 1) rfl (by rw [ex_4]; rfl) (by decide) rfl (fun ls hl => ?_)
        obtain ⟨x_5, ex_5⟩ : ∃ y9 : Int32, y9 = v3 + 1 := ⟨_, rfl⟩
        replace hm := ob1_at ex_5 hm
        refine lv_iinc (v := x_5) (lv' := [(3, .int x_5), (2, .int x_4), (0, .ref ((u 1)))]) hx hb d_Heap_behindWord_26 hl (k := 2) rfl (by rw [ex_5]; rfl) (by decide) rfl (fun ls hl => ?_)
        refine lv_goto (tgt := 6) hx hb d_Heap_behindWord_29 (by decide) ?_
        exact ih _ _ hm _ _ _ hP hS (lv_sub hl [2, 1, 0] rfl)
def m_Heap_behindWord (n : Nat) (g : Nat → Nat) (i : Nat → Int32) (a : Nat → Nat → Int32) (v1 : Int32) : Option (Int32) := ob1 (v1 + 1 : Int32) (fun x_1 => m_Heap_behindWord_b6 n g i a n x_1 x_1)
set_option maxHeartbeats 4000000 in
set_option maxRecDepth 100000 in
theorem x_Heap_behindWord (l : Launch) (dC : Nat → ClassId) (dI : Nat → Nat → Nat) (cI : ClassId) (adK adV adA u o g : Nat → Nat) (sz : Nat) (n : Nat) {i : Nat → Int32} {a : Nat → Nat → Int32} {v1 : Int32} {r2 : Int32} (hm : m_Heap_behindWord n g i a v1 = some r2) : Met l y_Heap_behindWord w_Heap_behindWord ({ frames := 0, cells := 0, slots := 0, locals := 0 } : Room) (va_Pc [.ref ((u 1)), .int v1] (xEr dC dI cI adK adV adA u o g i a sz)) (va_Qi (xR r2) xT (xN sz)) 0 0 (xN sz) := by
  refine Met.ofW (cc := b_Heap_behindWord) (maxL := 4) (ret := (some .int)) (by decide) rfl ?_
  intro p e s m args below meth c s₁ B hml hv
  obtain ⟨rfl, hsz, hP, hK, hE⟩ := hv
  have hx := B.exec
  have hb := B.bytes
  have hr := B.returns
  have hts := atoms_spec (ws := w_Heap_behindWord) B.pre
  have htt : ∀ w ∈ tw_T, w.before _ s = true := fun w h => hts w (List.mem_cons_of_mem _ h)
  have hown : s.vm.findClass R_Heap = some m.cls := findClass_of_methodNamed B.named
  have hlocks := B.notSynchronized
  subst hsz
  generalize hAe : xN s.heap.size = A at hE ⊢
  have hA : ∀ q : Nat, s.heap.size ≤ q → A q := fun q h => by rw [← hAe]; exact Or.inr h
  have hS : va_S A s.heap s.heap [] := va_S.rf
  have hl := lv_entry ([.ref ((u 1)), .int v1]) (n := 4) (Nat.le_of_ble_eq_true rfl)
  rw [lg_entry_eq]
  generalize (lg_sl ([.ref ((u 1)), .int v1]) ++ List.replicate (4 - (lg_sl ([.ref ((u 1)), .int v1])).length) Slot.unset).toArray = ls at hl ⊢
  have hl : lv_has ls 4 [(0, .ref ((u 1))), (1, .int v1)] := hl
  rw [m_Heap_behindWord] at hm
  refine lv_iload_n hx hb d_Heap_behindWord_0 rfl (lv_at hl 1 rfl) ?_
  refine lv_iconst (v := 1) hx hb d_Heap_behindWord_1 (by decide) ?_
  refine lv_iadd hx hb d_Heap_behindWord_2 ?_
  refine lv_topi (fun x_1 ex_1 => ?_)
  replace hm := ob1_at ex_1 hm
  refine lv_istore_n (lv' := [(2, .int x_1), (0, .ref ((u 1))), (1, .int v1)]) hx hb d_Heap_behindWord_3 rfl hl (by decide) rfl (fun ls hl => ?_)
  refine lv_iload_n hx hb d_Heap_behindWord_4 rfl (lv_at hl 0 rfl) ?_
  refine lv_istore_n (lv' := [(3, .int x_1), (2, .int x_1), (0, .ref ((u 1))), (1, .int v1)]) hx hb d_Heap_behindWord_5 rfl hl (by decide) rfl (fun ls hl => ?_)
  exact lb_Heap_behindWord_6 l dC dI cI adK adV adA u o g n hx hb hml hown hts hK hE hA hr hlocks n _ _ hm _ _ _ hP hS (lv_sub hl [2, 1, 0] rfl)

def m_Names_keep (n : Nat) (g : Nat → Nat) (i : Nat → Int32) (a : Nat → Nat → Int32)  : Option ((Nat → Int32) × (Nat → Nat → Int32) × Int32) := ob1 (i 12 : Int32) (fun x_1 => ob1 (upd i 14 x_1 : Nat → Int32) (fun i_2 => cy ((0 : Int32)) ((0 : Int32)) ((64 : Int32)) 64 64 (ob1 (updA a 14 (va_cpy (a 11) (a 14) (0 : Int32).toNatClampNeg (0 : Int32).toNatClampNeg (64 : Int32).toNatClampNeg) : Nat → Nat → Int32) (fun a_4 => some (i_2, a_4, (0 : Int32))))))
set_option maxHeartbeats 4000000 in
set_option maxRecDepth 100000 in
theorem x_Names_keep (l : Launch) (dC : Nat → ClassId) (dI : Nat → Nat → Nat) (cI : ClassId) (adK adV adA u o g : Nat → Nat) (sz : Nat) (n : Nat) {i : Nat → Int32} {a : Nat → Nat → Int32}  {i2 : Nat → Int32} {a2 : Nat → Nat → Int32} {r2 : Int32} (hm : m_Names_keep n g i a = some (i2, a2, r2)) : Met l y_Names_keep w_Names_keep ({ frames := 1, cells := 0, slots := 0, locals := 40 } : Room) (va_Pc [.ref ((u 3))] (xE dC dI cI adK adV adA u o g i a sz)) (va_Qv xV (xB dC dI cI u o g i2 a2 (va_A (TW cI u o i a g) sz)) (va_A (TW cI u o i a g) sz)) 0 0 ((va_A (TW cI u o i a g) sz)) := by
  refine Met.ofW (cc := b_Names_keep) (maxL := 1) (ret := none) (by decide) rfl ?_
  intro p e s m args below meth c s₁ B hml hv
  obtain ⟨rfl, hsz, hP, hK, hE, hD0⟩ := hv
  have hx := B.exec
  have hb := B.bytes
  have hr := B.returns
  have hts := atoms_spec (ws := w_Names_keep) B.pre
  have htt : ∀ w ∈ tw_T, w.before _ s = true := fun w h => hts w (List.mem_cons_of_mem _ h)
  have hown : s.vm.findClass R_Names = some m.cls := findClass_of_methodNamed B.named
  have hlocks := B.notSynchronized
  subst hsz
  have hD := hD0.self (sz := s.heap.size)
  generalize hAe : (va_A (TW cI u o i a g) s.heap.size) = A at hD hE ⊢
  have hA : ∀ q : Nat, s.heap.size ≤ q → A q := fun q h => by rw [← hAe]; exact Or.inr h
  have hS : va_S A s.heap s.heap [] := va_S.rf
  have hl := lv_entry ([.ref ((u 3))]) (n := 1) (Nat.le_of_ble_eq_true rfl)
  rw [lg_entry_eq]
  generalize (lg_sl ([.ref ((u 3))]) ++ List.replicate (1 - (lg_sl ([.ref ((u 3))])).length) Slot.unset).toArray = ls at hl ⊢
  have hl : lv_has ls 1 [(0, .ref ((u 3)))] := hl
  rw [m_Names_keep] at hm
  refine lv_aload_n hx hb d_Names_keep_0 rfl (lv_at hl 0 rfl) ?_
  refine lv_aload_n hx hb d_Names_keep_1 rfl (lv_at hl 0 rfl) ?_
  refine va_get (D := (dC, dI)) (ci := 3) (v := .int (i 12)) (C := R_Names) (T := F_Names) (N := 9) hx hb htt iw_Names hown hK hP 3 xo_3 rfl 3 (Nat.le_of_ble_eq_true rfl) (htt _ lk_Names_41) (fun _ h9 => h9) xg_3_3 d_Names_keep_2 ?_
  refine lv_topi (fun x_1 ex_1 => ?_)
  replace hm := ob1_at ex_1 hm
  refine va_put (D := (dC, dI)) (ci := 3) (v := .int x_1) (ty := .int) (C := R_Names) (T := F_Names) (N := 9) hx hb htt iw_Names t_Names t_Names_ok n_Names hown hK hP hD hS 3 xo_3 rfl 8 (Nat.le_of_ble_eq_true rfl) (htt _ lk_Names_66) (fun _ h9 => h9) rfl (by decide +kernel) rfl rfl xl_3_8 d_Names_keep_5 (fun H locs hP hD hS => ?_)
  obtain ⟨i_2, ei_2⟩ : ∃ y9 : Nat → Int32, y9 = upd i 14 x_1 := ⟨_, rfl⟩
  replace hm := ob1_at ei_2 hm
  obtain ⟨hP, hD⟩ := xw_14 ei_2 hP hD
  refine lv_aload_n hx hb d_Names_keep_8 rfl (lv_at hl 0 rfl) ?_
  refine va_get (D := (dC, dI)) (ci := 3) (v := .ref ((u 21))) (C := R_Names) (T := F_Names) (N := 9) hx hb htt iw_Names hown hK hP 3 xo_3 rfl 2 (Nat.le_of_ble_eq_true rfl) (htt _ lk_Names_15) (fun _ h9 => h9) xg_3_2 d_Names_keep_9 ?_
  refine lv_iconst (v := 0) hx hb d_Names_keep_12 (by decide) ?_
  refine lv_aload_n hx hb d_Names_keep_13 rfl (lv_at hl 0 rfl) ?_
  refine va_get (D := (dC, dI)) (ci := 3) (v := .ref ((u 24))) (C := R_Names) (T := F_Names) (N := 9) hx hb htt iw_Names hown hK hP 3 xo_3 rfl 7 (Nat.le_of_ble_eq_true rfl) (htt _ lk_Names_24) (fun _ h9 => h9) xg_3_7 d_Names_keep_14 ?_
  refine lv_iconst (v := 0) hx hb d_Names_keep_17 (by decide) ?_
  refine lv_bipush (v := 64) hx hb d_Names_keep_18 (by decide) ?_
  obtain ⟨h_3a, h_3b, h_3c, h_3d, h_3e, hm⟩ := cy_some hm
  refine va_copyi hx hb (by rw [hml]; exact hl.1.symm) hown (htt _ lk_Names_69) (htt _ na_arraycopy) (htt _ st_arraycopy) (htt _ ini_System) hK hP hD hS 23 26 0 0 (ty := .int) twA_11 twA_14 rfl rfl rfl h_3a h_3b h_3c h_3d h_3e (fun _ _ => rfl) (Nat.le_of_ble_eq_true rfl) (Nat.le_of_ble_eq_true rfl) d_Names_keep_20 (fun H locs hP hD hS => ?_)
  obtain ⟨a_4, ea_4⟩ : ∃ y9 : Nat → Nat → Int32, y9 = updA a 14 (va_cpy (a 11) (a 14) (0 : Int32).toNatClampNeg (0 : Int32).toNatClampNeg (64 : Int32).toNatClampNeg) := ⟨_, rfl⟩
  replace hm := ob1_at ea_4 hm
  obtain ⟨hP, hD⟩ := xv_14 ea_4 hP hD
  obtain ⟨e1i, e1a, e3⟩ := re3 hm
  obtain ⟨hP, hD⟩ := x_eq e1i e1a hP hD
  exact W.vret hx hb hr (fun t9 ht hW => ⟨⟨(), rfl, trivial, by rw [ht]; exact hP, hD⟩, hS.F ht⟩) hS.2.2 d_Names_keep_23

def m_Procedures_keep (n : Nat) (g : Nat → Nat) (i : Nat → Int32) (a : Nat → Nat → Int32)  : Option ((Nat → Int32) × (Nat → Nat → Int32) × Int32) := ob1 (i 15 : Int32) (fun x_1 => ob1 (upd i 16 x_1 : Nat → Int32) (fun i_2 => cy ((0 : Int32)) ((0 : Int32)) ((40 : Int32)) 40 40 (ob1 (updA a 18 (va_cpy (a 16) (a 18) (0 : Int32).toNatClampNeg (0 : Int32).toNatClampNeg (40 : Int32).toNatClampNeg) : Nat → Nat → Int32) (fun a_4 => cy ((0 : Int32)) ((0 : Int32)) ((40 : Int32)) 40 40 (ob1 (updA a_4 19 (va_cpy (a_4 17) (a_4 19) (0 : Int32).toNatClampNeg (0 : Int32).toNatClampNeg (40 : Int32).toNatClampNeg) : Nat → Nat → Int32) (fun a_6 => some (i_2, a_6, (0 : Int32))))))))
set_option maxHeartbeats 4000000 in
set_option maxRecDepth 100000 in
theorem x_Procedures_keep (l : Launch) (dC : Nat → ClassId) (dI : Nat → Nat → Nat) (cI : ClassId) (adK adV adA u o g : Nat → Nat) (sz : Nat) (n : Nat) {i : Nat → Int32} {a : Nat → Nat → Int32}  {i2 : Nat → Int32} {a2 : Nat → Nat → Int32} {r2 : Int32} (hm : m_Procedures_keep n g i a = some (i2, a2, r2)) : Met l y_Procedures_keep w_Procedures_keep ({ frames := 1, cells := 0, slots := 0, locals := 40 } : Room) (va_Pc [.ref ((u 4))] (xE dC dI cI adK adV adA u o g i a sz)) (va_Qv xV (xB dC dI cI u o g i2 a2 (va_A (TW cI u o i a g) sz)) (va_A (TW cI u o i a g) sz)) 0 0 ((va_A (TW cI u o i a g) sz)) := by
  refine Met.ofW (cc := b_Procedures_keep) (maxL := 1) (ret := none) (by decide) rfl ?_
  intro p e s m args below meth c s₁ B hml hv
  obtain ⟨rfl, hsz, hP, hK, hE, hD0⟩ := hv
  have hx := B.exec
  have hb := B.bytes
  have hr := B.returns
  have hts := atoms_spec (ws := w_Procedures_keep) B.pre
  have htt : ∀ w ∈ tw_T, w.before _ s = true := fun w h => hts w (List.mem_cons_of_mem _ h)
  have hown : s.vm.findClass R_Procedures = some m.cls := findClass_of_methodNamed B.named
  have hlocks := B.notSynchronized
  subst hsz
  have hD := hD0.self (sz := s.heap.size)
  generalize hAe : (va_A (TW cI u o i a g) s.heap.size) = A at hD hE ⊢
  have hA : ∀ q : Nat, s.heap.size ≤ q → A q := fun q h => by rw [← hAe]; exact Or.inr h
  have hS : va_S A s.heap s.heap [] := va_S.rf
  have hl := lv_entry ([.ref ((u 4))]) (n := 1) (Nat.le_of_ble_eq_true rfl)
  rw [lg_entry_eq]
  generalize (lg_sl ([.ref ((u 4))]) ++ List.replicate (1 - (lg_sl ([.ref ((u 4))])).length) Slot.unset).toArray = ls at hl ⊢
  have hl : lv_has ls 1 [(0, .ref ((u 4)))] := hl
  rw [m_Procedures_keep] at hm
  refine lv_aload_n hx hb d_Procedures_keep_0 rfl (lv_at hl 0 rfl) ?_
  refine lv_aload_n hx hb d_Procedures_keep_1 rfl (lv_at hl 0 rfl) ?_
  refine va_get (D := (dC, dI)) (ci := 4) (v := .int (i 15)) (C := R_Procedures) (T := F_Procedures) (N := 8) hx hb htt iw_Procedures hown hK hP 4 xo_4 rfl 4 (Nat.le_of_ble_eq_true rfl) (htt _ lk_Procedures_31) (fun _ h9 => h9) xg_4_4 d_Procedures_keep_2 ?_
  refine lv_topi (fun x_1 ex_1 => ?_)
  replace hm := ob1_at ex_1 hm
  refine va_put (D := (dC, dI)) (ci := 4) (v := .int x_1) (ty := .int) (C := R_Procedures) (T := F_Procedures) (N := 8) hx hb htt iw_Procedures t_Procedures t_Procedures_ok n_Procedures hown hK hP hD hS 4 xo_4 rfl 7 (Nat.le_of_ble_eq_true rfl) (htt _ lk_Procedures_48) (fun _ h9 => h9) rfl (by decide +kernel) rfl rfl xl_4_7 d_Procedures_keep_5 (fun H locs hP hD hS => ?_)
  obtain ⟨i_2, ei_2⟩ : ∃ y9 : Nat → Int32, y9 = upd i 16 x_1 := ⟨_, rfl⟩
  replace hm := ob1_at ei_2 hm
  obtain ⟨hP, hD⟩ := xw_16 ei_2 hP hD
  refine lv_aload_n hx hb d_Procedures_keep_8 rfl (lv_at hl 0 rfl) ?_
  refine va_get (D := (dC, dI)) (ci := 4) (v := .ref ((u 26))) (C := R_Procedures) (T := F_Procedures) (N := 8) hx hb htt iw_Procedures hown hK hP 4 xo_4 rfl 2 (Nat.le_of_ble_eq_true rfl) (htt _ lk_Procedures_15) (fun _ h9 => h9) xg_4_2 d_Procedures_keep_9 ?_
  refine lv_iconst (v := 0) hx hb d_Procedures_keep_12 (by decide) ?_
  refine lv_aload_n hx hb d_Procedures_keep_13 rfl (lv_at hl 0 rfl) ?_
  refine va_get (D := (dC, dI)) (ci := 4) (v := .ref ((u 28))) (C := R_Procedures) (T := F_Procedures) (N := 8) hx hb htt iw_Procedures hown hK hP 4 xo_4 rfl 5 (Nat.le_of_ble_eq_true rfl) (htt _ lk_Procedures_21) (fun _ h9 => h9) xg_4_5 d_Procedures_keep_14 ?_
  refine lv_iconst (v := 0) hx hb d_Procedures_keep_17 (by decide) ?_
  refine lv_bipush (v := 40) hx hb d_Procedures_keep_18 (by decide) ?_
  obtain ⟨h_3a, h_3b, h_3c, h_3d, h_3e, hm⟩ := cy_some hm
  refine va_copyi hx hb (by rw [hml]; exact hl.1.symm) hown (htt _ lk_Procedures_51) (htt _ na_arraycopy) (htt _ st_arraycopy) (htt _ ini_System) hK hP hD hS 28 30 0 0 (ty := .int) twA_16 twA_18 rfl rfl rfl h_3a h_3b h_3c h_3d h_3e (fun _ _ => rfl) (Nat.le_of_ble_eq_true rfl) (Nat.le_of_ble_eq_true rfl) d_Procedures_keep_20 (fun H locs hP hD hS => ?_)
  obtain ⟨a_4, ea_4⟩ : ∃ y9 : Nat → Nat → Int32, y9 = updA a 18 (va_cpy (a 16) (a 18) (0 : Int32).toNatClampNeg (0 : Int32).toNatClampNeg (40 : Int32).toNatClampNeg) := ⟨_, rfl⟩
  replace hm := ob1_at ea_4 hm
  obtain ⟨hP, hD⟩ := xv_18 ea_4 hP hD
  refine lv_aload_n hx hb d_Procedures_keep_23 rfl (lv_at hl 0 rfl) ?_
  refine va_get (D := (dC, dI)) (ci := 4) (v := .ref ((u 27))) (C := R_Procedures) (T := F_Procedures) (N := 8) hx hb htt iw_Procedures hown hK hP 4 xo_4 rfl 3 (Nat.le_of_ble_eq_true rfl) (htt _ lk_Procedures_18) (fun _ h9 => h9) xg_4_3 d_Procedures_keep_24 ?_
  refine lv_iconst (v := 0) hx hb d_Procedures_keep_27 (by decide) ?_
  refine lv_aload_n hx hb d_Procedures_keep_28 rfl (lv_at hl 0 rfl) ?_
  refine va_get (D := (dC, dI)) (ci := 4) (v := .ref ((u 29))) (C := R_Procedures) (T := F_Procedures) (N := 8) hx hb htt iw_Procedures hown hK hP 4 xo_4 rfl 6 (Nat.le_of_ble_eq_true rfl) (htt _ lk_Procedures_24) (fun _ h9 => h9) xg_4_6 d_Procedures_keep_29 ?_
  refine lv_iconst (v := 0) hx hb d_Procedures_keep_32 (by decide) ?_
  refine lv_bipush (v := 40) hx hb d_Procedures_keep_33 (by decide) ?_
  obtain ⟨h_5a, h_5b, h_5c, h_5d, h_5e, hm⟩ := cy_some hm
  refine va_copyi hx hb (by rw [hml]; exact hl.1.symm) hown (htt _ lk_Procedures_51) (htt _ na_arraycopy) (htt _ st_arraycopy) (htt _ ini_System) hK hP hD hS 29 31 0 0 (ty := .int) twA_17 twA_19 rfl rfl rfl h_5a h_5b h_5c h_5d h_5e (fun _ _ => rfl) (Nat.le_of_ble_eq_true rfl) (Nat.le_of_ble_eq_true rfl) d_Procedures_keep_35 (fun H locs hP hD hS => ?_)
  obtain ⟨a_6, ea_6⟩ : ∃ y9 : Nat → Nat → Int32, y9 = updA a_4 19 (va_cpy (a_4 17) (a_4 19) (0 : Int32).toNatClampNeg (0 : Int32).toNatClampNeg (40 : Int32).toNatClampNeg) := ⟨_, rfl⟩
  replace hm := ob1_at ea_6 hm
  obtain ⟨hP, hD⟩ := xv_19 ea_6 hP hD
  obtain ⟨e1i, e1a, e3⟩ := re3 hm
  obtain ⟨hP, hD⟩ := x_eq e1i e1a hP hD
  exact W.vret hx hb hr (fun t9 ht hW => ⟨⟨(), rfl, trivial, by rw [ht]; exact hP, hD⟩, hS.F ht⟩) hS.2.2 d_Procedures_keep_38

def m_Turtles_keep (n : Nat) (g : Nat → Nat) (i : Nat → Int32) (a : Nat → Nat → Int32)  : Option ((Nat → Int32) × (Nat → Nat → Int32) × Int32) := cy ((0 : Int32)) ((0 : Int32)) (nI 56) 56 56 (ob1 (updA a 24 (va_cpy (a 20) (a 24) (0 : Int32).toNatClampNeg (0 : Int32).toNatClampNeg (nI 56).toNatClampNeg) : Nat → Nat → Int32) (fun a_2 => cy ((0 : Int32)) ((0 : Int32)) (nI 4096) 4096 4096 (ob1 (updA a_2 25 (va_cpy (a_2 21) (a_2 25) (0 : Int32).toNatClampNeg (0 : Int32).toNatClampNeg (nI 4096).toNatClampNeg) : Nat → Nat → Int32) (fun a_4 => ob1 (i 17 : Int32) (fun x_5 => ob1 (upd i 18 x_5 : Nat → Int32) (fun i_6 => some (i_6, a_4, (0 : Int32))))))))
set_option maxHeartbeats 4000000 in
set_option maxRecDepth 100000 in
theorem x_Turtles_keep (l : Launch) (dC : Nat → ClassId) (dI : Nat → Nat → Nat) (cI : ClassId) (adK adV adA u o g : Nat → Nat) (sz : Nat) (n : Nat) {i : Nat → Int32} {a : Nat → Nat → Int32}  {i2 : Nat → Int32} {a2 : Nat → Nat → Int32} {r2 : Int32} (hm : m_Turtles_keep n g i a = some (i2, a2, r2)) : Met l y_Turtles_keep w_Turtles_keep ({ frames := 1, cells := 0, slots := 0, locals := 40 } : Room) (va_Pc [.ref ((u 5))] (xE dC dI cI adK adV adA u o g i a sz)) (va_Qv xV (xB dC dI cI u o g i2 a2 (va_A (TW cI u o i a g) sz)) (va_A (TW cI u o i a g) sz)) 0 0 ((va_A (TW cI u o i a g) sz)) := by
  refine Met.ofW (cc := b_Turtles_keep) (maxL := 1) (ret := none) (by decide) rfl ?_
  intro p e s m args below meth c s₁ B hml hv
  obtain ⟨rfl, hsz, hP, hK, hE, hD0⟩ := hv
  have hx := B.exec
  have hb := B.bytes
  have hr := B.returns
  have hts := atoms_spec (ws := w_Turtles_keep) B.pre
  have htt : ∀ w ∈ tw_T, w.before _ s = true := fun w h => hts w (List.mem_cons_of_mem _ h)
  have hown : s.vm.findClass R_Turtles = some m.cls := findClass_of_methodNamed B.named
  have hlocks := B.notSynchronized
  subst hsz
  have hD := hD0.self (sz := s.heap.size)
  generalize hAe : (va_A (TW cI u o i a g) s.heap.size) = A at hD hE ⊢
  have hA : ∀ q : Nat, s.heap.size ≤ q → A q := fun q h => by rw [← hAe]; exact Or.inr h
  have hS : va_S A s.heap s.heap [] := va_S.rf
  have hl := lv_entry ([.ref ((u 5))]) (n := 1) (Nat.le_of_ble_eq_true rfl)
  rw [lg_entry_eq]
  generalize (lg_sl ([.ref ((u 5))]) ++ List.replicate (1 - (lg_sl ([.ref ((u 5))])).length) Slot.unset).toArray = ls at hl ⊢
  have hl : lv_has ls 1 [(0, .ref ((u 5)))] := hl
  rw [m_Turtles_keep] at hm
  refine lv_aload_n hx hb d_Turtles_keep_0 rfl (lv_at hl 0 rfl) ?_
  refine va_get (D := (dC, dI)) (ci := 5) (v := .ref ((u 30))) (C := R_Turtles) (T := F_Turtles) (N := 8) hx hb htt iw_Turtles hown hK hP 5 xo_5 rfl 0 (Nat.le_of_ble_eq_true rfl) (htt _ lk_Turtles_11) (fun _ h9 => h9) xg_5_0 d_Turtles_keep_1 ?_
  refine lv_iconst (v := 0) hx hb d_Turtles_keep_4 (by decide) ?_
  refine lv_aload_n hx hb d_Turtles_keep_5 rfl (lv_at hl 0 rfl) ?_
  refine va_get (D := (dC, dI)) (ci := 5) (v := .ref ((u 34))) (C := R_Turtles) (T := F_Turtles) (N := 8) hx hb htt iw_Turtles hown hK hP 5 xo_5 rfl 5 (Nat.le_of_ble_eq_true rfl) (htt _ lk_Turtles_24) (fun _ h9 => h9) xg_5_5 d_Turtles_keep_6 ?_
  refine lv_iconst (v := 0) hx hb d_Turtles_keep_9 (by decide) ?_
  refine lv_aload_n hx hb d_Turtles_keep_10 rfl (lv_at hl 0 rfl) ?_
  refine va_get (D := (dC, dI)) (ci := 5) (v := .ref ((u 30))) (C := R_Turtles) (T := F_Turtles) (N := 8) hx hb htt iw_Turtles hown hK hP 5 xo_5 rfl 0 (Nat.le_of_ble_eq_true rfl) (htt _ lk_Turtles_11) (fun _ h9 => h9) xg_5_0 d_Turtles_keep_11 ?_
  refine va_alen (v := nI 56) hx hb hK hP 32 0 twA_20 rfl rfl d_Turtles_keep_14 ?_
  obtain ⟨h_1a, h_1b, h_1c, h_1d, h_1e, hm⟩ := cy_some hm
  refine va_copyi hx hb (by rw [hml]; exact hl.1.symm) hown (htt _ lk_Turtles_77) (htt _ na_arraycopy) (htt _ st_arraycopy) (htt _ ini_System) hK hP hD hS 32 36 0 0 (ty := .int) twA_20 twA_24 rfl rfl rfl h_1a h_1b h_1c h_1d h_1e (fun _ _ => rfl) (Nat.le_of_ble_eq_true rfl) (Nat.le_of_ble_eq_true rfl) d_Turtles_keep_15 (fun H locs hP hD hS => ?_)
  obtain ⟨a_2, ea_2⟩ : ∃ y9 : Nat → Nat → Int32, y9 = updA a 24 (va_cpy (a 20) (a 24) (0 : Int32).toNatClampNeg (0 : Int32).toNatClampNeg (nI 56).toNatClampNeg) := ⟨_, rfl⟩
  replace hm := ob1_at ea_2 hm
  obtain ⟨hP, hD⟩ := xv_24 ea_2 hP hD
  refine lv_aload_n hx hb d_Turtles_keep_18 rfl (lv_at hl 0 rfl) ?_
  refine va_get (D := (dC, dI)) (ci := 5) (v := .ref ((u 31))) (C := R_Turtles) (T := F_Turtles) (N := 8) hx hb htt iw_Turtles hown hK hP 5 xo_5 rfl 1 (Nat.le_of_ble_eq_true rfl) (htt _ lk_Turtles_15) (fun _ h9 => h9) xg_5_1 d_Turtles_keep_19 ?_
  refine lv_iconst (v := 0) hx hb d_Turtles_keep_22 (by decide) ?_
  refine lv_aload_n hx hb d_Turtles_keep_23 rfl (lv_at hl 0 rfl) ?_
  refine va_get (D := (dC, dI)) (ci := 5) (v := .ref ((u 35))) (C := R_Turtles) (T := F_Turtles) (N := 8) hx hb htt iw_Turtles hown hK hP 5 xo_5 rfl 6 (Nat.le_of_ble_eq_true rfl) (htt _ lk_Turtles_27) (fun _ h9 => h9) xg_5_6 d_Turtles_keep_24 ?_
  refine lv_iconst (v := 0) hx hb d_Turtles_keep_27 (by decide) ?_
  refine lv_aload_n hx hb d_Turtles_keep_28 rfl (lv_at hl 0 rfl) ?_
  refine va_get (D := (dC, dI)) (ci := 5) (v := .ref ((u 31))) (C := R_Turtles) (T := F_Turtles) (N := 8) hx hb htt iw_Turtles hown hK hP 5 xo_5 rfl 1 (Nat.le_of_ble_eq_true rfl) (htt _ lk_Turtles_15) (fun _ h9 => h9) xg_5_1 d_Turtles_keep_29 ?_
  refine va_alen (v := nI 4096) hx hb hK hP 33 0 twA_21 rfl rfl d_Turtles_keep_32 ?_
  obtain ⟨h_3a, h_3b, h_3c, h_3d, h_3e, hm⟩ := cy_some hm
  refine va_copyi hx hb (by rw [hml]; exact hl.1.symm) hown (htt _ lk_Turtles_77) (htt _ na_arraycopy) (htt _ st_arraycopy) (htt _ ini_System) hK hP hD hS 33 37 0 0 (ty := .int) twA_21 twA_25 rfl rfl rfl h_3a h_3b h_3c h_3d h_3e (fun _ _ => rfl) (Nat.le_of_ble_eq_true rfl) (Nat.le_of_ble_eq_true rfl) d_Turtles_keep_33 (fun H locs hP hD hS => ?_)
  obtain ⟨a_4, ea_4⟩ : ∃ y9 : Nat → Nat → Int32, y9 = updA a_2 25 (va_cpy (a_2 21) (a_2 25) (0 : Int32).toNatClampNeg (0 : Int32).toNatClampNeg (nI 4096).toNatClampNeg) := ⟨_, rfl⟩
  replace hm := ob1_at ea_4 hm
  obtain ⟨hP, hD⟩ := xv_25 ea_4 hP hD
  refine lv_aload_n hx hb d_Turtles_keep_36 rfl (lv_at hl 0 rfl) ?_
  refine lv_aload_n hx hb d_Turtles_keep_37 rfl (lv_at hl 0 rfl) ?_
  refine va_get (D := (dC, dI)) (ci := 5) (v := .int (i 17)) (C := R_Turtles) (T := F_Turtles) (N := 8) hx hb htt iw_Turtles hown hK hP 5 xo_5 rfl 2 (Nat.le_of_ble_eq_true rfl) (htt _ lk_Turtles_34) (fun _ h9 => h9) xg_5_2 d_Turtles_keep_38 ?_
  refine lv_topi (fun x_5 ex_5 => ?_)
  replace hm := ob1_at ex_5 hm
  refine va_put (D := (dC, dI)) (ci := 5) (v := .int x_5) (ty := .int) (C := R_Turtles) (T := F_Turtles) (N := 8) hx hb htt iw_Turtles t_Turtles t_Turtles_ok n_Turtles hown hK hP hD hS 5 xo_5 rfl 7 (Nat.le_of_ble_eq_true rfl) (htt _ lk_Turtles_137) (fun _ h9 => h9) rfl (by decide +kernel) rfl rfl xl_5_7 d_Turtles_keep_41 (fun H locs hP hD hS => ?_)
  obtain ⟨i_6, ei_6⟩ : ∃ y9 : Nat → Int32, y9 = upd i 18 x_5 := ⟨_, rfl⟩
  replace hm := ob1_at ei_6 hm
  obtain ⟨hP, hD⟩ := xw_18 ei_6 hP hD
  obtain ⟨e1i, e1a, e3⟩ := re3 hm
  obtain ⟨hP, hD⟩ := x_eq e1i e1a hP hD
  exact W.vret hx hb hr (fun t9 ht hW => ⟨⟨(), rfl, trivial, by rw [ht]; exact hP, hD⟩, hS.F ht⟩) hS.2.2 d_Turtles_keep_44

def m_Output_keep (n : Nat) (g : Nat → Nat) (i : Nat → Int32) (a : Nat → Nat → Int32)  : Option ((Nat → Int32) × (Nat → Nat → Int32) × Int32) := cy ((0 : Int32)) ((0 : Int32)) ((2000 : Int32)) 2000 2000 (ob1 (updA a 27 (va_cpy (a 26) (a 27) (0 : Int32).toNatClampNeg (0 : Int32).toNatClampNeg (2000 : Int32).toNatClampNeg) : Nat → Nat → Int32) (fun a_2 => ob1 (i 19 : Int32) (fun x_3 => ob1 (upd i 21 x_3 : Nat → Int32) (fun i_4 => ob1 (i_4 20 : Int32) (fun x_5 => ob1 (upd i_4 22 x_5 : Nat → Int32) (fun i_6 => some (i_6, a_2, (0 : Int32))))))))
set_option maxHeartbeats 4000000 in
set_option maxRecDepth 100000 in
theorem x_Output_keep (l : Launch) (dC : Nat → ClassId) (dI : Nat → Nat → Nat) (cI : ClassId) (adK adV adA u o g : Nat → Nat) (sz : Nat) (n : Nat) {i : Nat → Int32} {a : Nat → Nat → Int32}  {i2 : Nat → Int32} {a2 : Nat → Nat → Int32} {r2 : Int32} (hm : m_Output_keep n g i a = some (i2, a2, r2)) : Met l y_Output_keep w_Output_keep ({ frames := 1, cells := 0, slots := 0, locals := 40 } : Room) (va_Pc [.ref ((u 6))] (xE dC dI cI adK adV adA u o g i a sz)) (va_Qv xV (xB dC dI cI u o g i2 a2 (va_A (TW cI u o i a g) sz)) (va_A (TW cI u o i a g) sz)) 0 0 ((va_A (TW cI u o i a g) sz)) := by
  refine Met.ofW (cc := b_Output_keep) (maxL := 1) (ret := none) (by decide) rfl ?_
  intro p e s m args below meth c s₁ B hml hv
  obtain ⟨rfl, hsz, hP, hK, hE, hD0⟩ := hv
  have hx := B.exec
  have hb := B.bytes
  have hr := B.returns
  have hts := atoms_spec (ws := w_Output_keep) B.pre
  have htt : ∀ w ∈ tw_T, w.before _ s = true := fun w h => hts w (List.mem_cons_of_mem _ h)
  have hown : s.vm.findClass R_Output = some m.cls := findClass_of_methodNamed B.named
  have hlocks := B.notSynchronized
  subst hsz
  have hD := hD0.self (sz := s.heap.size)
  generalize hAe : (va_A (TW cI u o i a g) s.heap.size) = A at hD hE ⊢
  have hA : ∀ q : Nat, s.heap.size ≤ q → A q := fun q h => by rw [← hAe]; exact Or.inr h
  have hS : va_S A s.heap s.heap [] := va_S.rf
  have hl := lv_entry ([.ref ((u 6))]) (n := 1) (Nat.le_of_ble_eq_true rfl)
  rw [lg_entry_eq]
  generalize (lg_sl ([.ref ((u 6))]) ++ List.replicate (1 - (lg_sl ([.ref ((u 6))])).length) Slot.unset).toArray = ls at hl ⊢
  have hl : lv_has ls 1 [(0, .ref ((u 6)))] := hl
  rw [m_Output_keep] at hm
  refine lv_aload_n hx hb d_Output_keep_0 rfl (lv_at hl 0 rfl) ?_
  refine va_get (D := (dC, dI)) (ci := 6) (v := .ref ((u 36))) (C := R_Output) (T := F_Output) (N := 11) hx hb htt iw_Output hown hK hP 6 xo_6 rfl 1 (Nat.le_of_ble_eq_true rfl) (htt _ lk_Output_11) (fun _ h9 => h9) xg_6_1 d_Output_keep_1 ?_
  refine lv_iconst (v := 0) hx hb d_Output_keep_4 (by decide) ?_
  refine lv_aload_n hx hb d_Output_keep_5 rfl (lv_at hl 0 rfl) ?_
  refine va_get (D := (dC, dI)) (ci := 6) (v := .ref ((u 37))) (C := R_Output) (T := F_Output) (N := 11) hx hb htt iw_Output hown hK hP 6 xo_6 rfl 4 (Nat.le_of_ble_eq_true rfl) (htt _ lk_Output_15) (fun _ h9 => h9) xg_6_4 d_Output_keep_6 ?_
  refine lv_iconst (v := 0) hx hb d_Output_keep_9 (by decide) ?_
  refine lv_sipush (v := 2000) hx hb d_Output_keep_10 (by decide) ?_
  obtain ⟨h_1a, h_1b, h_1c, h_1d, h_1e, hm⟩ := cy_some hm
  refine va_copyi hx hb (by rw [hml]; exact hl.1.symm) hown (htt _ lk_Output_75) (htt _ na_arraycopy) (htt _ st_arraycopy) (htt _ ini_System) hK hP hD hS 38 39 0 0 (ty := .int) twA_26 twA_27 rfl rfl rfl h_1a h_1b h_1c h_1d h_1e (fun _ _ => rfl) (Nat.le_of_ble_eq_true rfl) (Nat.le_of_ble_eq_true rfl) d_Output_keep_13 (fun H locs hP hD hS => ?_)
  obtain ⟨a_2, ea_2⟩ : ∃ y9 : Nat → Nat → Int32, y9 = updA a 27 (va_cpy (a 26) (a 27) (0 : Int32).toNatClampNeg (0 : Int32).toNatClampNeg (2000 : Int32).toNatClampNeg) := ⟨_, rfl⟩
  replace hm := ob1_at ea_2 hm
  obtain ⟨hP, hD⟩ := xv_27 ea_2 hP hD
  refine lv_aload_n hx hb d_Output_keep_16 rfl (lv_at hl 0 rfl) ?_
  refine lv_aload_n hx hb d_Output_keep_17 rfl (lv_at hl 0 rfl) ?_
  refine va_get (D := (dC, dI)) (ci := 6) (v := .int (i 19)) (C := R_Output) (T := F_Output) (N := 11) hx hb htt iw_Output hown hK hP 6 xo_6 rfl 2 (Nat.le_of_ble_eq_true rfl) (htt _ lk_Output_61) (fun _ h9 => h9) xg_6_2 d_Output_keep_18 ?_
  refine lv_topi (fun x_3 ex_3 => ?_)
  replace hm := ob1_at ex_3 hm
  refine va_put (D := (dC, dI)) (ci := 6) (v := .int x_3) (ty := .int) (C := R_Output) (T := F_Output) (N := 11) hx hb htt iw_Output t_Output t_Output_ok n_Output hown hK hP hD hS 6 xo_6 rfl 5 (Nat.le_of_ble_eq_true rfl) (htt _ lk_Output_81) (fun _ h9 => h9) rfl (by decide +kernel) rfl rfl xl_6_5 d_Output_keep_21 (fun H locs hP hD hS => ?_)
  obtain ⟨i_4, ei_4⟩ : ∃ y9 : Nat → Int32, y9 = upd i 21 x_3 := ⟨_, rfl⟩
  replace hm := ob1_at ei_4 hm
  obtain ⟨hP, hD⟩ := xw_21 ei_4 hP hD
  refine lv_aload_n hx hb d_Output_keep_24 rfl (lv_at hl 0 rfl) ?_
  refine lv_aload_n hx hb d_Output_keep_25 rfl (lv_at hl 0 rfl) ?_
  refine va_get (D := (dC, dI)) (ci := 6) (v := .int (i_4 20)) (C := R_Output) (T := F_Output) (N := 11) hx hb htt iw_Output hown hK hP 6 xo_6 rfl 3 (Nat.le_of_ble_eq_true rfl) (htt _ lk_Output_64) (fun _ h9 => h9) xg_6_3 d_Output_keep_26 ?_
  refine lv_topi (fun x_5 ex_5 => ?_)
  replace hm := ob1_at ex_5 hm
  refine va_put (D := (dC, dI)) (ci := 6) (v := .int x_5) (ty := .int) (C := R_Output) (T := F_Output) (N := 11) hx hb htt iw_Output t_Output t_Output_ok n_Output hown hK hP hD hS 6 xo_6 rfl 6 (Nat.le_of_ble_eq_true rfl) (htt _ lk_Output_84) (fun _ h9 => h9) rfl (by decide +kernel) rfl rfl xl_6_6 d_Output_keep_29 (fun H locs hP hD hS => ?_)
  obtain ⟨i_6, ei_6⟩ : ∃ y9 : Nat → Int32, y9 = upd i_4 22 x_5 := ⟨_, rfl⟩
  replace hm := ob1_at ei_6 hm
  obtain ⟨hP, hD⟩ := xw_22 ei_6 hP hD
  obtain ⟨e1i, e1a, e3⟩ := re3 hm
  obtain ⟨hP, hD⟩ := x_eq e1i e1a hP hD
  exact W.vret hx hb hr (fun t9 ht hW => ⟨⟨(), rfl, trivial, by rw [ht]; exact hP, hD⟩, hS.F ht⟩) hS.2.2 d_Output_keep_32

def m_Line_begin (n : Nat) (g : Nat → Nat) (i : Nat → Int32) (a : Nat → Nat → Int32)  : Option ((Nat → Int32) × (Nat → Nat → Int32) × Int32) := ob1 (upd i 35 1 : Nat → Int32) (fun i_1 => ob1 (upd i_1 36 0 : Nat → Int32) (fun i_2 => ob1 (upd i_2 37 0 : Nat → Int32) (fun i_3 => ob1 (upd i_3 38 0 : Nat → Int32) (fun i_4 => ob1 (upd i_4 39 0 : Nat → Int32) (fun i_5 => ob1 (upd i_5 40 0 : Nat → Int32) (fun i_6 => ob1 (upd i_6 41 0 : Nat → Int32) (fun i_7 => some (i_7, a, (0 : Int32)))))))))
set_option maxHeartbeats 4000000 in
set_option maxRecDepth 100000 in
theorem x_Line_begin (l : Launch) (dC : Nat → ClassId) (dI : Nat → Nat → Nat) (cI : ClassId) (adK adV adA u o g : Nat → Nat) (sz : Nat) (n : Nat) {i : Nat → Int32} {a : Nat → Nat → Int32}  {i2 : Nat → Int32} {a2 : Nat → Nat → Int32} {r2 : Int32} (hm : m_Line_begin n g i a = some (i2, a2, r2)) : Met l y_Line_begin w_Line_begin ({ frames := 0, cells := 0, slots := 0, locals := 0 } : Room) (va_Pc [.ref ((u 8))] (xE dC dI cI adK adV adA u o g i a sz)) (va_Qv xV (xB dC dI cI u o g i2 a2 (va_A (TW cI u o i a g) sz)) (va_A (TW cI u o i a g) sz)) 0 0 ((va_A (TW cI u o i a g) sz)) := by
  refine Met.ofW (cc := b_Line_begin) (maxL := 1) (ret := none) (by decide) rfl ?_
  intro p e s m args below meth c s₁ B hml hv
  obtain ⟨rfl, hsz, hP, hK, hE, hD0⟩ := hv
  have hx := B.exec
  have hb := B.bytes
  have hr := B.returns
  have hts := atoms_spec (ws := w_Line_begin) B.pre
  have htt : ∀ w ∈ tw_T, w.before _ s = true := fun w h => hts w (List.mem_cons_of_mem _ h)
  have hown : s.vm.findClass R_Line = some m.cls := findClass_of_methodNamed B.named
  have hlocks := B.notSynchronized
  subst hsz
  have hD := hD0.self (sz := s.heap.size)
  generalize hAe : (va_A (TW cI u o i a g) s.heap.size) = A at hD hE ⊢
  have hA : ∀ q : Nat, s.heap.size ≤ q → A q := fun q h => by rw [← hAe]; exact Or.inr h
  have hS : va_S A s.heap s.heap [] := va_S.rf
  have hl := lv_entry ([.ref ((u 8))]) (n := 1) (Nat.le_of_ble_eq_true rfl)
  rw [lg_entry_eq]
  generalize (lg_sl ([.ref ((u 8))]) ++ List.replicate (1 - (lg_sl ([.ref ((u 8))])).length) Slot.unset).toArray = ls at hl ⊢
  have hl : lv_has ls 1 [(0, .ref ((u 8)))] := hl
  rw [m_Line_begin] at hm
  refine lv_aload_n hx hb d_Line_begin_0 rfl (lv_at hl 0 rfl) ?_
  refine lv_iconst (v := 1) hx hb d_Line_begin_1 (by decide) ?_
  refine va_put (D := (dC, dI)) (ci := 8) (v := .int 1) (ty := .int) (C := R_Line) (T := F_Line) (N := 18) hx hb htt iw_Line t_Line t_Line_ok n_Line hown hK hP hD hS 8 xo_8 rfl 1 (Nat.le_of_ble_eq_true rfl) (htt _ lk_Line_46) (fun _ h9 => h9) rfl (by decide +kernel) rfl rfl xl_8_1 d_Line_begin_2 (fun H locs hP hD hS => ?_)
  obtain ⟨i_1, ei_1⟩ : ∃ y9 : Nat → Int32, y9 = upd i 35 1 := ⟨_, rfl⟩
  replace hm := ob1_at ei_1 hm
  obtain ⟨hP, hD⟩ := xw_35 ei_1 hP hD
  refine lv_aload_n hx hb d_Line_begin_5 rfl (lv_at hl 0 rfl) ?_
  refine lv_iconst (v := 0) hx hb d_Line_begin_6 (by decide) ?_
  refine va_put (D := (dC, dI)) (ci := 8) (v := .int 0) (ty := .int) (C := R_Line) (T := F_Line) (N := 18) hx hb htt iw_Line t_Line t_Line_ok n_Line hown hK hP hD hS 8 xo_8 rfl 2 (Nat.le_of_ble_eq_true rfl) (htt _ lk_Line_50) (fun _ h9 => h9) rfl (by decide +kernel) rfl rfl xl_8_2 d_Line_begin_7 (fun H locs hP hD hS => ?_)
  obtain ⟨i_2, ei_2⟩ : ∃ y9 : Nat → Int32, y9 = upd i_1 36 0 := ⟨_, rfl⟩
  replace hm := ob1_at ei_2 hm
  obtain ⟨hP, hD⟩ := xw_36 ei_2 hP hD
  refine lv_aload_n hx hb d_Line_begin_10 rfl (lv_at hl 0 rfl) ?_
  refine lv_iconst (v := 0) hx hb d_Line_begin_11 (by decide) ?_
  refine va_put (D := (dC, dI)) (ci := 8) (v := .int 0) (ty := .int) (C := R_Line) (T := F_Line) (N := 18) hx hb htt iw_Line t_Line t_Line_ok n_Line hown hK hP hD hS 8 xo_8 rfl 3 (Nat.le_of_ble_eq_true rfl) (htt _ lk_Line_53) (fun _ h9 => h9) rfl (by decide +kernel) rfl rfl xl_8_3 d_Line_begin_12 (fun H locs hP hD hS => ?_)
  obtain ⟨i_3, ei_3⟩ : ∃ y9 : Nat → Int32, y9 = upd i_2 37 0 := ⟨_, rfl⟩
  replace hm := ob1_at ei_3 hm
  obtain ⟨hP, hD⟩ := xw_37 ei_3 hP hD
  refine lv_aload_n hx hb d_Line_begin_15 rfl (lv_at hl 0 rfl) ?_
  refine lv_iconst (v := 0) hx hb d_Line_begin_16 (by decide) ?_
  refine va_put (D := (dC, dI)) (ci := 8) (v := .int 0) (ty := .int) (C := R_Line) (T := F_Line) (N := 18) hx hb htt iw_Line t_Line t_Line_ok n_Line hown hK hP hD hS 8 xo_8 rfl 4 (Nat.le_of_ble_eq_true rfl) (htt _ lk_Line_56) (fun _ h9 => h9) rfl (by decide +kernel) rfl rfl xl_8_4 d_Line_begin_17 (fun H locs hP hD hS => ?_)
  obtain ⟨i_4, ei_4⟩ : ∃ y9 : Nat → Int32, y9 = upd i_3 38 0 := ⟨_, rfl⟩
  replace hm := ob1_at ei_4 hm
  obtain ⟨hP, hD⟩ := xw_38 ei_4 hP hD
  refine lv_aload_n hx hb d_Line_begin_20 rfl (lv_at hl 0 rfl) ?_
  refine lv_iconst (v := 0) hx hb d_Line_begin_21 (by decide) ?_
  refine va_put (D := (dC, dI)) (ci := 8) (v := .int 0) (ty := .int) (C := R_Line) (T := F_Line) (N := 18) hx hb htt iw_Line t_Line t_Line_ok n_Line hown hK hP hD hS 8 xo_8 rfl 5 (Nat.le_of_ble_eq_true rfl) (htt _ lk_Line_59) (fun _ h9 => h9) rfl (by decide +kernel) rfl rfl xl_8_5 d_Line_begin_22 (fun H locs hP hD hS => ?_)
  obtain ⟨i_5, ei_5⟩ : ∃ y9 : Nat → Int32, y9 = upd i_4 39 0 := ⟨_, rfl⟩
  replace hm := ob1_at ei_5 hm
  obtain ⟨hP, hD⟩ := xw_39 ei_5 hP hD
  refine lv_aload_n hx hb d_Line_begin_25 rfl (lv_at hl 0 rfl) ?_
  refine lv_iconst (v := 0) hx hb d_Line_begin_26 (by decide) ?_
  refine va_put (D := (dC, dI)) (ci := 8) (v := .int 0) (ty := .int) (C := R_Line) (T := F_Line) (N := 18) hx hb htt iw_Line t_Line t_Line_ok n_Line hown hK hP hD hS 8 xo_8 rfl 6 (Nat.le_of_ble_eq_true rfl) (htt _ lk_Line_62) (fun _ h9 => h9) rfl (by decide +kernel) rfl rfl xl_8_6 d_Line_begin_27 (fun H locs hP hD hS => ?_)
  obtain ⟨i_6, ei_6⟩ : ∃ y9 : Nat → Int32, y9 = upd i_5 40 0 := ⟨_, rfl⟩
  replace hm := ob1_at ei_6 hm
  obtain ⟨hP, hD⟩ := xw_40 ei_6 hP hD
  refine lv_aload_n hx hb d_Line_begin_30 rfl (lv_at hl 0 rfl) ?_
  refine lv_iconst (v := 0) hx hb d_Line_begin_31 (by decide) ?_
  refine va_put (D := (dC, dI)) (ci := 8) (v := .int 0) (ty := .int) (C := R_Line) (T := F_Line) (N := 18) hx hb htt iw_Line t_Line t_Line_ok n_Line hown hK hP hD hS 8 xo_8 rfl 7 (Nat.le_of_ble_eq_true rfl) (htt _ lk_Line_65) (fun _ h9 => h9) rfl (by decide +kernel) rfl rfl xl_8_7 d_Line_begin_32 (fun H locs hP hD hS => ?_)
  obtain ⟨i_7, ei_7⟩ : ∃ y9 : Nat → Int32, y9 = upd i_6 41 0 := ⟨_, rfl⟩
  replace hm := ob1_at ei_7 hm
  obtain ⟨hP, hD⟩ := xw_41 ei_7 hP hD
  obtain ⟨e1i, e1a, e3⟩ := re3 hm
  obtain ⟨hP, hD⟩ := x_eq e1i e1a hP hD
  exact W.vret hx hb hr (fun t9 ht hW => ⟨⟨(), rfl, trivial, by rw [ht]; exact hP, hD⟩, hS.F ht⟩) hS.2.2 d_Line_begin_35

def m_Waiting_begin (n : Nat) (g : Nat → Nat) (i : Nat → Int32) (a : Nat → Nat → Int32)  : Option ((Nat → Int32) × (Nat → Nat → Int32) × Int32) := ob1 (upd i 42 0 : Nat → Int32) (fun i_1 => ob1 (upd i_1 43 0 : Nat → Int32) (fun i_2 => ob1 (upd i_2 44 0 : Nat → Int32) (fun i_3 => some (i_3, a, (0 : Int32)))))
set_option maxHeartbeats 4000000 in
set_option maxRecDepth 100000 in
theorem x_Waiting_begin (l : Launch) (dC : Nat → ClassId) (dI : Nat → Nat → Nat) (cI : ClassId) (adK adV adA u o g : Nat → Nat) (sz : Nat) (n : Nat) {i : Nat → Int32} {a : Nat → Nat → Int32}  {i2 : Nat → Int32} {a2 : Nat → Nat → Int32} {r2 : Int32} (hm : m_Waiting_begin n g i a = some (i2, a2, r2)) : Met l y_Waiting_begin w_Waiting_begin ({ frames := 0, cells := 0, slots := 0, locals := 0 } : Room) (va_Pc [.ref ((u 9))] (xE dC dI cI adK adV adA u o g i a sz)) (va_Qv xV (xB dC dI cI u o g i2 a2 (va_A (TW cI u o i a g) sz)) (va_A (TW cI u o i a g) sz)) 0 0 ((va_A (TW cI u o i a g) sz)) := by
  refine Met.ofW (cc := b_Waiting_begin) (maxL := 1) (ret := none) (by decide) rfl ?_
  intro p e s m args below meth c s₁ B hml hv
  obtain ⟨rfl, hsz, hP, hK, hE, hD0⟩ := hv
  have hx := B.exec
  have hb := B.bytes
  have hr := B.returns
  have hts := atoms_spec (ws := w_Waiting_begin) B.pre
  have htt : ∀ w ∈ tw_T, w.before _ s = true := fun w h => hts w (List.mem_cons_of_mem _ h)
  have hown : s.vm.findClass R_Waiting = some m.cls := findClass_of_methodNamed B.named
  have hlocks := B.notSynchronized
  subst hsz
  have hD := hD0.self (sz := s.heap.size)
  generalize hAe : (va_A (TW cI u o i a g) s.heap.size) = A at hD hE ⊢
  have hA : ∀ q : Nat, s.heap.size ≤ q → A q := fun q h => by rw [← hAe]; exact Or.inr h
  have hS : va_S A s.heap s.heap [] := va_S.rf
  have hl := lv_entry ([.ref ((u 9))]) (n := 1) (Nat.le_of_ble_eq_true rfl)
  rw [lg_entry_eq]
  generalize (lg_sl ([.ref ((u 9))]) ++ List.replicate (1 - (lg_sl ([.ref ((u 9))])).length) Slot.unset).toArray = ls at hl ⊢
  have hl : lv_has ls 1 [(0, .ref ((u 9)))] := hl
  rw [m_Waiting_begin] at hm
  refine lv_aload_n hx hb d_Waiting_begin_0 rfl (lv_at hl 0 rfl) ?_
  refine lv_iconst (v := 0) hx hb d_Waiting_begin_1 (by decide) ?_
  refine va_put (D := (dC, dI)) (ci := 9) (v := .int 0) (ty := .int) (C := R_Waiting) (T := F_Waiting) (N := 11) hx hb htt iw_Waiting t_Waiting t_Waiting_ok n_Waiting hown hK hP hD hS 9 xo_9 rfl 7 (Nat.le_of_ble_eq_true rfl) (htt _ lk_Waiting_36) (fun _ h9 => h9) rfl (by decide +kernel) rfl rfl xl_9_7 d_Waiting_begin_2 (fun H locs hP hD hS => ?_)
  obtain ⟨i_1, ei_1⟩ : ∃ y9 : Nat → Int32, y9 = upd i 42 0 := ⟨_, rfl⟩
  replace hm := ob1_at ei_1 hm
  obtain ⟨hP, hD⟩ := xw_42 ei_1 hP hD
  refine lv_aload_n hx hb d_Waiting_begin_5 rfl (lv_at hl 0 rfl) ?_
  refine lv_iconst (v := 0) hx hb d_Waiting_begin_6 (by decide) ?_
  refine va_put (D := (dC, dI)) (ci := 9) (v := .int 0) (ty := .int) (C := R_Waiting) (T := F_Waiting) (N := 11) hx hb htt iw_Waiting t_Waiting t_Waiting_ok n_Waiting hown hK hP hD hS 9 xo_9 rfl 9 (Nat.le_of_ble_eq_true rfl) (htt _ lk_Waiting_40) (fun _ h9 => h9) rfl (by decide +kernel) rfl rfl xl_9_9 d_Waiting_begin_7 (fun H locs hP hD hS => ?_)
  obtain ⟨i_2, ei_2⟩ : ∃ y9 : Nat → Int32, y9 = upd i_1 43 0 := ⟨_, rfl⟩
  replace hm := ob1_at ei_2 hm
  obtain ⟨hP, hD⟩ := xw_43 ei_2 hP hD
  refine lv_aload_n hx hb d_Waiting_begin_10 rfl (lv_at hl 0 rfl) ?_
  refine lv_iconst (v := 0) hx hb d_Waiting_begin_11 (by decide) ?_
  refine va_put (D := (dC, dI)) (ci := 9) (v := .int 0) (ty := .int) (C := R_Waiting) (T := F_Waiting) (N := 11) hx hb htt iw_Waiting t_Waiting t_Waiting_ok n_Waiting hown hK hP hD hS 9 xo_9 rfl 10 (Nat.le_of_ble_eq_true rfl) (htt _ lk_Waiting_43) (fun _ h9 => h9) rfl (by decide +kernel) rfl rfl xl_9_10 d_Waiting_begin_12 (fun H locs hP hD hS => ?_)
  obtain ⟨i_3, ei_3⟩ : ∃ y9 : Nat → Int32, y9 = upd i_2 44 0 := ⟨_, rfl⟩
  replace hm := ob1_at ei_3 hm
  obtain ⟨hP, hD⟩ := xw_44 ei_3 hP hD
  obtain ⟨e1i, e1a, e3⟩ := re3 hm
  obtain ⟨hP, hD⟩ := x_eq e1i e1a hP hD
  exact W.vret hx hb hr (fun t9 ht hW => ⟨⟨(), rfl, trivial, by rw [ht]; exact hP, hD⟩, hS.F ht⟩) hS.2.2 d_Waiting_begin_15

def m_Names_dropLocals (n : Nat) (g : Nat → Nat) (i : Nat → Int32) (a : Nat → Nat → Int32) (v1 : Int32) : Option ((Nat → Int32) × (Nat → Nat → Int32) × Int32) := if v1 < ((0 : Int32)) then some (i, a, (0 : Int32)) else if ((i 13)) ≤ v1 then some (i, a, (0 : Int32)) else ob1 (upd i 13 v1 : Nat → Int32) (fun i_3 => some (i_3, a, (0 : Int32)))
set_option maxHeartbeats 4000000 in
set_option maxRecDepth 100000 in
theorem x_Names_dropLocals (l : Launch) (dC : Nat → ClassId) (dI : Nat → Nat → Nat) (cI : ClassId) (adK adV adA u o g : Nat → Nat) (sz : Nat) (n : Nat) {i : Nat → Int32} {a : Nat → Nat → Int32} {v1 : Int32} {i2 : Nat → Int32} {a2 : Nat → Nat → Int32} {r2 : Int32} (hm : m_Names_dropLocals n g i a v1 = some (i2, a2, r2)) : Met l y_Names_dropLocals w_Names_dropLocals ({ frames := 0, cells := 0, slots := 0, locals := 0 } : Room) (va_Pc [.ref ((u 3)), .int v1] (xE dC dI cI adK adV adA u o g i a sz)) (va_Qv xV (xB dC dI cI u o g i2 a2 (va_A (TW cI u o i a g) sz)) (va_A (TW cI u o i a g) sz)) 0 0 ((va_A (TW cI u o i a g) sz)) := by
  refine Met.ofW (cc := b_Names_dropLocals) (maxL := 2) (ret := none) (by decide) rfl ?_
  intro p e s m args below meth c s₁ B hml hv
  obtain ⟨rfl, hsz, hP, hK, hE, hD0⟩ := hv
  have hx := B.exec
  have hb := B.bytes
  have hr := B.returns
  have hts := atoms_spec (ws := w_Names_dropLocals) B.pre
  have htt : ∀ w ∈ tw_T, w.before _ s = true := fun w h => hts w (List.mem_cons_of_mem _ h)
  have hown : s.vm.findClass R_Names = some m.cls := findClass_of_methodNamed B.named
  have hlocks := B.notSynchronized
  subst hsz
  have hD := hD0.self (sz := s.heap.size)
  generalize hAe : (va_A (TW cI u o i a g) s.heap.size) = A at hD hE ⊢
  have hA : ∀ q : Nat, s.heap.size ≤ q → A q := fun q h => by rw [← hAe]; exact Or.inr h
  have hS : va_S A s.heap s.heap [] := va_S.rf
  have hl := lv_entry ([.ref ((u 3)), .int v1]) (n := 2) (Nat.le_of_ble_eq_true rfl)
  rw [lg_entry_eq]
  generalize (lg_sl ([.ref ((u 3)), .int v1]) ++ List.replicate (2 - (lg_sl ([.ref ((u 3)), .int v1])).length) Slot.unset).toArray = ls at hl ⊢
  have hl : lv_has ls 2 [(0, .ref ((u 3))), (1, .int v1)] := hl
  rw [m_Names_dropLocals] at hm
  refine lv_iload_n hx hb d_Names_dropLocals_0 rfl (lv_at hl 1 rfl) ?_
  refine lv_if_lt (tgt := 17) hx hb d_Names_dropLocals_1 (by decide) (fun c_1 => ?_) (fun c_1 => ?_)
  · replace hm := if_t c_1 hm
    obtain ⟨e1i, e1a, e3⟩ := re3 hm
    obtain ⟨hP, hD⟩ := x_eq e1i e1a hP hD
    exact W.vret hx hb hr (fun t9 ht hW => ⟨⟨(), rfl, trivial, by rw [ht]; exact hP, hD⟩, hS.F ht⟩) hS.2.2 d_Names_dropLocals_17
  · replace hm := if_f c_1 hm
    refine lv_iload_n hx hb d_Names_dropLocals_4 rfl (lv_at hl 1 rfl) ?_
    refine lv_aload_n hx hb d_Names_dropLocals_5 rfl (lv_at hl 0 rfl) ?_
    refine va_get (D := (dC, dI)) (ci := 3) (v := .int (i 13)) (C := R_Names) (T := F_Names) (N := 9) hx hb htt iw_Names hown hK hP 3 xo_3 rfl 6 (Nat.le_of_ble_eq_true rfl) (htt _ lk_Names_31) (fun _ h9 => h9) xg_3_6 d_Names_dropLocals_6 ?_
    refine lv_icmp_ge (tgt := 17) hx hb d_Names_dropLocals_9 (by decide) (fun c_2 => ?_) (fun c_2 => ?_)
    · replace hm := if_t c_2 hm
      obtain ⟨e1i, e1a, e3⟩ := re3 hm
      obtain ⟨hP, hD⟩ := x_eq e1i e1a hP hD
      exact W.vret hx hb hr (fun t9 ht hW => ⟨⟨(), rfl, trivial, by rw [ht]; exact hP, hD⟩, hS.F ht⟩) hS.2.2 d_Names_dropLocals_17
    · replace hm := if_f c_2 hm
      refine lv_aload_n hx hb d_Names_dropLocals_12 rfl (lv_at hl 0 rfl) ?_
      refine lv_iload_n hx hb d_Names_dropLocals_13 rfl (lv_at hl 1 rfl) ?_
      refine va_put (D := (dC, dI)) (ci := 3) (v := .int v1) (ty := .int) (C := R_Names) (T := F_Names) (N := 9) hx hb htt iw_Names t_Names t_Names_ok n_Names hown hK hP hD hS 3 xo_3 rfl 6 (Nat.le_of_ble_eq_true rfl) (htt _ lk_Names_31) (fun _ h9 => h9) rfl (by decide +kernel) rfl rfl xl_3_6 d_Names_dropLocals_14 (fun H locs hP hD hS => ?_)
      obtain ⟨i_3, ei_3⟩ : ∃ y9 : Nat → Int32, y9 = upd i 13 v1 := ⟨_, rfl⟩
      replace hm := ob1_at ei_3 hm
      obtain ⟨hP, hD⟩ := xw_13 ei_3 hP hD
      obtain ⟨e1i, e1a, e3⟩ := re3 hm
      obtain ⟨hP, hD⟩ := x_eq e1i e1a hP hD
      exact W.vret hx hb hr (fun t9 ht hW => ⟨⟨(), rfl, trivial, by rw [ht]; exact hP, hD⟩, hS.F ht⟩) hS.2.2 d_Names_dropLocals_17

def m_Line_open (n : Nat) (g : Nat → Nat) (i : Nat → Int32) (a : Nat → Nat → Int32) (v1 : Int32) (v2 : Int32) : Option ((Nat → Int32) × (Nat → Nat → Int32) × Int32) := if ((i 40)) < ((150 : Int32)) then ck ((i 40)) 150 (ob1 (sv a 37 (i 40).toNatClampNeg v1 : Nat → Nat → Int32) (fun a_3 => ck ((i 40)) 150 (ob1 (sv a_3 38 (i 40).toNatClampNeg v2 : Nat → Nat → Int32) (fun a_5 => ck ((i 40)) 150 (ob1 (sv a_5 39 (i 40).toNatClampNeg 0 : Nat → Nat → Int32) (fun a_7 => ck ((i 40)) 150 (ob1 (sv a_7 40 (i 40).toNatClampNeg 1 : Nat → Nat → Int32) (fun a_9 => ck ((i 40)) 150 (ob1 (sv a_9 41 (i 40).toNatClampNeg 1 : Nat → Nat → Int32) (fun a_11 => ck ((i 40)) 150 (ob1 (sv a_11 42 (i 40).toNatClampNeg ((-2147483648)) : Nat → Nat → Int32) (fun a_13 => ck ((i 40)) 150 (ob1 (sv a_13 43 (i 40).toNatClampNeg ((-2147483648)) : Nat → Nat → Int32) (fun a_15 => ck ((i 40)) 150 (ob1 (sv a_15 44 (i 40).toNatClampNeg (i 42) : Nat → Nat → Int32) (fun a_17 => ck ((i 40)) 150 (ob1 (sv a_17 45 (i 40).toNatClampNeg (i 43) : Nat → Nat → Int32) (fun a_19 => ck ((i 40)) 150 (ob1 (sv a_19 46 (i 40).toNatClampNeg 0 : Nat → Nat → Int32) (fun a_21 => ob1 ((i 40) + 1 : Int32) (fun x_22 => ob1 (upd i 40 x_22 : Nat → Int32) (fun i_23 => some (i_23, a_21, 1))))))))))))))))))))))) else some (i, a, 0)
set_option maxHeartbeats 4000000 in
set_option maxRecDepth 100000 in
theorem x_Line_open (l : Launch) (dC : Nat → ClassId) (dI : Nat → Nat → Nat) (cI : ClassId) (adK adV adA u o g : Nat → Nat) (sz : Nat) (n : Nat) {i : Nat → Int32} {a : Nat → Nat → Int32} {v1 : Int32} {v2 : Int32} {i2 : Nat → Int32} {a2 : Nat → Nat → Int32} {r2 : Int32} (hm : m_Line_open n g i a v1 v2 = some (i2, a2, r2)) : Met l y_Line_open w_Line_open ({ frames := 0, cells := 0, slots := 0, locals := 0 } : Room) (va_Pc [.ref ((u 8)), .int v1, .int v2, .ref ((u 9))] (xE dC dI cI adK adV adA u o g i a sz)) (va_Qi (xR r2) (xB dC dI cI u o g i2 a2 (va_A (TW cI u o i a g) sz)) (va_A (TW cI u o i a g) sz)) 0 0 ((va_A (TW cI u o i a g) sz)) := by
  refine Met.ofW (cc := b_Line_open) (maxL := 4) (ret := (some .boolean)) (by decide) rfl ?_
  intro p e s m args below meth c s₁ B hml hv
  obtain ⟨rfl, hsz, hP, hK, hE, hD0⟩ := hv
  have hx := B.exec
  have hb := B.bytes
  have hr := B.returns
  have hts := atoms_spec (ws := w_Line_open) B.pre
  have htt : ∀ w ∈ tw_T, w.before _ s = true := fun w h => hts w (List.mem_cons_of_mem _ h)
  have hown : s.vm.findClass R_Line = some m.cls := findClass_of_methodNamed B.named
  have hlocks := B.notSynchronized
  subst hsz
  have hD := hD0.self (sz := s.heap.size)
  generalize hAe : (va_A (TW cI u o i a g) s.heap.size) = A at hD hE ⊢
  have hA : ∀ q : Nat, s.heap.size ≤ q → A q := fun q h => by rw [← hAe]; exact Or.inr h
  have hS : va_S A s.heap s.heap [] := va_S.rf
  have hl := lv_entry ([.ref ((u 8)), .int v1, .int v2, .ref ((u 9))]) (n := 4) (Nat.le_of_ble_eq_true rfl)
  rw [lg_entry_eq]
  generalize (lg_sl ([.ref ((u 8)), .int v1, .int v2, .ref ((u 9))]) ++ List.replicate (4 - (lg_sl ([.ref ((u 8)), .int v1, .int v2, .ref ((u 9))])).length) Slot.unset).toArray = ls at hl ⊢
  have hl : lv_has ls 4 [(0, .ref ((u 8))), (1, .int v1), (2, .int v2), (3, .ref ((u 9)))] := hl
  rw [m_Line_open] at hm
  refine lv_aload_n hx hb d_Line_open_0 rfl (lv_at hl 0 rfl) ?_
  refine va_get (D := (dC, dI)) (ci := 8) (v := .int (i 40)) (C := R_Line) (T := F_Line) (N := 18) hx hb htt iw_Line hown hK hP 8 xo_8 rfl 6 (Nat.le_of_ble_eq_true rfl) (htt _ lk_Line_62) (fun _ h9 => h9) xg_8_6 d_Line_open_1 ?_
  refine lv_sipush (v := 150) hx hb d_Line_open_4 (by decide) ?_
  refine lv_icmp_lt (tgt := 12) hx hb d_Line_open_7 (by decide) (fun c_1 => ?_) (fun c_1 => ?_)
  · replace hm := if_t c_1 hm
    refine lv_aload_n hx hb d_Line_open_12 rfl (lv_at hl 0 rfl) ?_
    refine va_get (D := (dC, dI)) (ci := 8) (v := .ref ((u 47))) (C := R_Line) (T := F_Line) (N := 18) hx hb htt iw_Line hown hK hP 8 xo_8 rfl 8 (Nat.le_of_ble_eq_true rfl) (htt _ lk_Line_9) (fun _ h9 => h9) xg_8_8 d_Line_open_13 ?_
    refine lv_aload_n hx hb d_Line_open_16 rfl (lv_at hl 0 rfl) ?_
    refine va_get (D := (dC, dI)) (ci := 8) (v := .int (i 40)) (C := R_Line) (T := F_Line) (N := 18) hx hb htt iw_Line hown hK hP 8 xo_8 rfl 6 (Nat.le_of_ble_eq_true rfl) (htt _ lk_Line_62) (fun _ h9 => h9) xg_8_6 d_Line_open_17 ?_
    refine lv_iload_n hx hb d_Line_open_20 rfl (lv_at hl 1 rfl) ?_
    obtain ⟨h_2, hm⟩ := ck_some hm
    refine va_iast hx hb hK hP hD hS 49 0 twA_37 rfl h_2 d_Line_open_21 (fun H locs hP hD hS => ?_)
    obtain ⟨a_3, ea_3⟩ : ∃ y9 : Nat → Nat → Int32, y9 = sv a 37 (i 40).toNatClampNeg v1 := ⟨_, rfl⟩
    replace hm := ob1_at ea_3 hm
    obtain ⟨hP, hD⟩ := xv_37 ea_3 hP hD
    refine lv_aload_n hx hb d_Line_open_22 rfl (lv_at hl 0 rfl) ?_
    refine va_get (D := (dC, dI)) (ci := 8) (v := .ref ((u 48))) (C := R_Line) (T := F_Line) (N := 18) hx hb htt iw_Line hown hK hP 8 xo_8 rfl 9 (Nat.le_of_ble_eq_true rfl) (htt _ lk_Line_15) (fun _ h9 => h9) xg_8_9 d_Line_open_23 ?_
    refine lv_aload_n hx hb d_Line_open_26 rfl (lv_at hl 0 rfl) ?_
    refine va_get (D := (dC, dI)) (ci := 8) (v := .int (i 40)) (C := R_Line) (T := F_Line) (N := 18) hx hb htt iw_Line hown hK hP 8 xo_8 rfl 6 (Nat.le_of_ble_eq_true rfl) (htt _ lk_Line_62) (fun _ h9 => h9) xg_8_6 d_Line_open_27 ?_
    refine lv_iload_n hx hb d_Line_open_30 rfl (lv_at hl 2 rfl) ?_
    obtain ⟨h_4, hm⟩ := ck_some hm
    refine va_iast hx hb hK hP hD hS 50 0 twA_38 rfl h_4 d_Line_open_31 (fun H locs hP hD hS => ?_)
    obtain ⟨a_5, ea_5⟩ : ∃ y9 : Nat → Nat → Int32, y9 = sv a_3 38 (i 40).toNatClampNeg v2 := ⟨_, rfl⟩
    replace hm := ob1_at ea_5 hm
    obtain ⟨hP, hD⟩ := xv_38 ea_5 hP hD
    refine lv_aload_n hx hb d_Line_open_32 rfl (lv_at hl 0 rfl) ?_
    refine va_get (D := (dC, dI)) (ci := 8) (v := .ref ((u 49))) (C := R_Line) (T := F_Line) (N := 18) hx hb htt iw_Line hown hK hP 8 xo_8 rfl 10 (Nat.le_of_ble_eq_true rfl) (htt _ lk_Line_18) (fun _ h9 => h9) xg_8_10 d_Line_open_33 ?_
    refine lv_aload_n hx hb d_Line_open_36 rfl (lv_at hl 0 rfl) ?_
    refine va_get (D := (dC, dI)) (ci := 8) (v := .int (i 40)) (C := R_Line) (T := F_Line) (N := 18) hx hb htt iw_Line hown hK hP 8 xo_8 rfl 6 (Nat.le_of_ble_eq_true rfl) (htt _ lk_Line_62) (fun _ h9 => h9) xg_8_6 d_Line_open_37 ?_
    refine lv_iconst (v := 0) hx hb d_Line_open_40 (by decide) ?_
    obtain ⟨h_6, hm⟩ := ck_some hm
    refine va_iast hx hb hK hP hD hS 51 0 twA_39 rfl h_6 d_Line_open_41 (fun H locs hP hD hS => ?_)
    obtain ⟨a_7, ea_7⟩ : ∃ y9 : Nat → Nat → Int32, y9 = sv a_5 39 (i 40).toNatClampNeg 0 := ⟨_, rfl⟩
    replace hm := ob1_at ea_7 hm
    obtain ⟨hP, hD⟩ := xv_39 ea_7 hP hD
    refine lv_aload_n hx hb d_Line_open_42 rfl (lv_at hl 0 rfl) ?_
    refine va_get (D := (dC, dI)) (ci := 8) (v := .ref ((u 50))) (C := R_Line) (T := F_Line) (N := 18) hx hb htt iw_Line hown hK hP 8 xo_8 rfl 11 (Nat.le_of_ble_eq_true rfl) (htt _ lk_Line_21) (fun _ h9 => h9) xg_8_11 d_Line_open_43 ?_
    refine lv_aload_n hx hb d_Line_open_46 rfl (lv_at hl 0 rfl) ?_
    refine va_get (D := (dC, dI)) (ci := 8) (v := .int (i 40)) (C := R_Line) (T := F_Line) (N := 18) hx hb htt iw_Line hown hK hP 8 xo_8 rfl 6 (Nat.le_of_ble_eq_true rfl) (htt _ lk_Line_62) (fun _ h9 => h9) xg_8_6 d_Line_open_47 ?_
    refine lv_iconst (v := 1) hx hb d_Line_open_50 (by decide) ?_
    obtain ⟨h_8, hm⟩ := ck_some hm
    refine va_iast hx hb hK hP hD hS 52 0 twA_40 rfl h_8 d_Line_open_51 (fun H locs hP hD hS => ?_)
    obtain ⟨a_9, ea_9⟩ : ∃ y9 : Nat → Nat → Int32, y9 = sv a_7 40 (i 40).toNatClampNeg 1 := ⟨_, rfl⟩
    replace hm := ob1_at ea_9 hm
    obtain ⟨hP, hD⟩ := xv_40 ea_9 hP hD
    refine lv_aload_n hx hb d_Line_open_52 rfl (lv_at hl 0 rfl) ?_
    refine va_get (D := (dC, dI)) (ci := 8) (v := .ref ((u 51))) (C := R_Line) (T := F_Line) (N := 18) hx hb htt iw_Line hown hK hP 8 xo_8 rfl 12 (Nat.le_of_ble_eq_true rfl) (htt _ lk_Line_24) (fun _ h9 => h9) xg_8_12 d_Line_open_53 ?_
    refine lv_aload_n hx hb d_Line_open_56 rfl (lv_at hl 0 rfl) ?_
    refine va_get (D := (dC, dI)) (ci := 8) (v := .int (i 40)) (C := R_Line) (T := F_Line) (N := 18) hx hb htt iw_Line hown hK hP 8 xo_8 rfl 6 (Nat.le_of_ble_eq_true rfl) (htt _ lk_Line_62) (fun _ h9 => h9) xg_8_6 d_Line_open_57 ?_
    refine lv_iconst (v := 1) hx hb d_Line_open_60 (by decide) ?_
    obtain ⟨h_10, hm⟩ := ck_some hm
    refine va_iast hx hb hK hP hD hS 53 0 twA_41 rfl h_10 d_Line_open_61 (fun H locs hP hD hS => ?_)
    obtain ⟨a_11, ea_11⟩ : ∃ y9 : Nat → Nat → Int32, y9 = sv a_9 41 (i 40).toNatClampNeg 1 := ⟨_, rfl⟩
    replace hm := ob1_at ea_11 hm
    obtain ⟨hP, hD⟩ := xv_41 ea_11 hP hD
    refine lv_aload_n hx hb d_Line_open_62 rfl (lv_at hl 0 rfl) ?_
    refine va_get (D := (dC, dI)) (ci := 8) (v := .ref ((u 52))) (C := R_Line) (T := F_Line) (N := 18) hx hb htt iw_Line hown hK hP 8 xo_8 rfl 13 (Nat.le_of_ble_eq_true rfl) (htt _ lk_Line_27) (fun _ h9 => h9) xg_8_13 d_Line_open_63 ?_
    refine lv_aload_n hx hb d_Line_open_66 rfl (lv_at hl 0 rfl) ?_
    refine va_get (D := (dC, dI)) (ci := 8) (v := .int (i 40)) (C := R_Line) (T := F_Line) (N := 18) hx hb htt iw_Line hown hK hP 8 xo_8 rfl 6 (Nat.le_of_ble_eq_true rfl) (htt _ lk_Line_62) (fun _ h9 => h9) xg_8_6 d_Line_open_67 ?_
    refine lv_ldc (v := (-2147483648)) hx hb hown (htt _ lk_Line_68) d_Line_open_70 ?_
    obtain ⟨h_12, hm⟩ := ck_some hm
    refine va_iast hx hb hK hP hD hS 54 0 twA_42 rfl h_12 d_Line_open_72 (fun H locs hP hD hS => ?_)
    obtain ⟨a_13, ea_13⟩ : ∃ y9 : Nat → Nat → Int32, y9 = sv a_11 42 (i 40).toNatClampNeg ((-2147483648)) := ⟨_, rfl⟩
    replace hm := ob1_at ea_13 hm
    obtain ⟨hP, hD⟩ := xv_42 ea_13 hP hD
    refine lv_aload_n hx hb d_Line_open_73 rfl (lv_at hl 0 rfl) ?_
    refine va_get (D := (dC, dI)) (ci := 8) (v := .ref ((u 53))) (C := R_Line) (T := F_Line) (N := 18) hx hb htt iw_Line hown hK hP 8 xo_8 rfl 14 (Nat.le_of_ble_eq_true rfl) (htt _ lk_Line_30) (fun _ h9 => h9) xg_8_14 d_Line_open_74 ?_
    refine lv_aload_n hx hb d_Line_open_77 rfl (lv_at hl 0 rfl) ?_
    refine va_get (D := (dC, dI)) (ci := 8) (v := .int (i 40)) (C := R_Line) (T := F_Line) (N := 18) hx hb htt iw_Line hown hK hP 8 xo_8 rfl 6 (Nat.le_of_ble_eq_true rfl) (htt _ lk_Line_62) (fun _ h9 => h9) xg_8_6 d_Line_open_78 ?_
    refine lv_ldc (v := (-2147483648)) hx hb hown (htt _ lk_Line_68) d_Line_open_81 ?_
    obtain ⟨h_14, hm⟩ := ck_some hm
    refine va_iast hx hb hK hP hD hS 55 0 twA_43 rfl h_14 d_Line_open_83 (fun H locs hP hD hS => ?_)
    obtain ⟨a_15, ea_15⟩ : ∃ y9 : Nat → Nat → Int32, y9 = sv a_13 43 (i 40).toNatClampNeg ((-2147483648)) := ⟨_, rfl⟩
    replace hm := ob1_at ea_15 hm
    obtain ⟨hP, hD⟩ := xv_43 ea_15 hP hD
    refine lv_aload_n hx hb d_Line_open_84 rfl (lv_at hl 0 rfl) ?_
    refine va_get (D := (dC, dI)) (ci := 8) (v := .ref ((u 54))) (C := R_Line) (T := F_Line) (N := 18) hx hb htt iw_Line hown hK hP 8 xo_8 rfl 15 (Nat.le_of_ble_eq_true rfl) (htt _ lk_Line_33) (fun _ h9 => h9) xg_8_15 d_Line_open_85 ?_
    refine lv_aload_n hx hb d_Line_open_88 rfl (lv_at hl 0 rfl) ?_
    refine va_get (D := (dC, dI)) (ci := 8) (v := .int (i 40)) (C := R_Line) (T := F_Line) (N := 18) hx hb htt iw_Line hown hK hP 8 xo_8 rfl 6 (Nat.le_of_ble_eq_true rfl) (htt _ lk_Line_62) (fun _ h9 => h9) xg_8_6 d_Line_open_89 ?_
    refine lv_aload_n hx hb d_Line_open_92 rfl (lv_at hl 3 rfl) ?_
    refine va_get (D := (dC, dI)) (ci := 9) (v := .int (i 42)) (C := R_Waiting) (T := F_Waiting) (N := 11) hx hb htt iw_Waiting hown hK hP 9 xo_9 rfl 7 (Nat.le_of_ble_eq_true rfl) (htt _ lk_Line_69) (fun _ h9 => h9) xg_9_7 d_Line_open_93 ?_
    obtain ⟨h_16, hm⟩ := ck_some hm
    refine va_iast hx hb hK hP hD hS 56 0 twA_44 rfl h_16 d_Line_open_96 (fun H locs hP hD hS => ?_)
    obtain ⟨a_17, ea_17⟩ : ∃ y9 : Nat → Nat → Int32, y9 = sv a_15 44 (i 40).toNatClampNeg (i 42) := ⟨_, rfl⟩
    replace hm := ob1_at ea_17 hm
    obtain ⟨hP, hD⟩ := xv_44 ea_17 hP hD
    refine lv_aload_n hx hb d_Line_open_97 rfl (lv_at hl 0 rfl) ?_
    refine va_get (D := (dC, dI)) (ci := 8) (v := .ref ((u 55))) (C := R_Line) (T := F_Line) (N := 18) hx hb htt iw_Line hown hK hP 8 xo_8 rfl 16 (Nat.le_of_ble_eq_true rfl) (htt _ lk_Line_36) (fun _ h9 => h9) xg_8_16 d_Line_open_98 ?_
    refine lv_aload_n hx hb d_Line_open_101 rfl (lv_at hl 0 rfl) ?_
    refine va_get (D := (dC, dI)) (ci := 8) (v := .int (i 40)) (C := R_Line) (T := F_Line) (N := 18) hx hb htt iw_Line hown hK hP 8 xo_8 rfl 6 (Nat.le_of_ble_eq_true rfl) (htt _ lk_Line_62) (fun _ h9 => h9) xg_8_6 d_Line_open_102 ?_
    refine lv_aload_n hx hb d_Line_open_105 rfl (lv_at hl 3 rfl) ?_
    refine va_get (D := (dC, dI)) (ci := 9) (v := .int (i 43)) (C := R_Waiting) (T := F_Waiting) (N := 11) hx hb htt iw_Waiting hown hK hP 9 xo_9 rfl 9 (Nat.le_of_ble_eq_true rfl) (htt _ lk_Line_74) (fun _ h9 => h9) xg_9_9 d_Line_open_106 ?_
    obtain ⟨h_18, hm⟩ := ck_some hm
    refine va_iast hx hb hK hP hD hS 57 0 twA_45 rfl h_18 d_Line_open_109 (fun H locs hP hD hS => ?_)
    obtain ⟨a_19, ea_19⟩ : ∃ y9 : Nat → Nat → Int32, y9 = sv a_17 45 (i 40).toNatClampNeg (i 43) := ⟨_, rfl⟩
    replace hm := ob1_at ea_19 hm
    obtain ⟨hP, hD⟩ := xv_45 ea_19 hP hD
    refine lv_aload_n hx hb d_Line_open_110 rfl (lv_at hl 0 rfl) ?_
    refine va_get (D := (dC, dI)) (ci := 8) (v := .ref ((u 56))) (C := R_Line) (T := F_Line) (N := 18) hx hb htt iw_Line hown hK hP 8 xo_8 rfl 17 (Nat.le_of_ble_eq_true rfl) (htt _ lk_Line_39) (fun _ h9 => h9) xg_8_17 d_Line_open_111 ?_
    refine lv_aload_n hx hb d_Line_open_114 rfl (lv_at hl 0 rfl) ?_
    refine va_get (D := (dC, dI)) (ci := 8) (v := .int (i 40)) (C := R_Line) (T := F_Line) (N := 18) hx hb htt iw_Line hown hK hP 8 xo_8 rfl 6 (Nat.le_of_ble_eq_true rfl) (htt _ lk_Line_62) (fun _ h9 => h9) xg_8_6 d_Line_open_115 ?_
    refine lv_iconst (v := 0) hx hb d_Line_open_118 (by decide) ?_
    obtain ⟨h_20, hm⟩ := ck_some hm
    refine va_iast hx hb hK hP hD hS 58 0 twA_46 rfl h_20 d_Line_open_119 (fun H locs hP hD hS => ?_)
    obtain ⟨a_21, ea_21⟩ : ∃ y9 : Nat → Nat → Int32, y9 = sv a_19 46 (i 40).toNatClampNeg 0 := ⟨_, rfl⟩
    replace hm := ob1_at ea_21 hm
    obtain ⟨hP, hD⟩ := xv_46 ea_21 hP hD
    refine lv_aload_n hx hb d_Line_open_120 rfl (lv_at hl 0 rfl) ?_
    refine lv_dup hx hb d_Line_open_121 rfl ?_
    refine va_get (D := (dC, dI)) (ci := 8) (v := .int (i 40)) (C := R_Line) (T := F_Line) (N := 18) hx hb htt iw_Line hown hK hP 8 xo_8 rfl 6 (Nat.le_of_ble_eq_true rfl) (htt _ lk_Line_62) (fun _ h9 => h9) xg_8_6 d_Line_open_122 ?_
    refine lv_iconst (v := 1) hx hb d_Line_open_125 (by decide) ?_
    refine lv_iadd hx hb d_Line_open_126 ?_
    refine lv_topi (fun x_22 ex_22 => ?_)
    replace hm := ob1_at ex_22 hm
    refine va_put (D := (dC, dI)) (ci := 8) (v := .int x_22) (ty := .int) (C := R_Line) (T := F_Line) (N := 18) hx hb htt iw_Line t_Line t_Line_ok n_Line hown hK hP hD hS 8 xo_8 rfl 6 (Nat.le_of_ble_eq_true rfl) (htt _ lk_Line_62) (fun _ h9 => h9) rfl (by decide +kernel) rfl rfl xl_8_6 d_Line_open_127 (fun H locs hP hD hS => ?_)
    obtain ⟨i_23, ei_23⟩ : ∃ y9 : Nat → Int32, y9 = upd i 40 x_22 := ⟨_, rfl⟩
    replace hm := ob1_at ei_23 hm
    obtain ⟨hP, hD⟩ := xw_40 ei_23 hP hD
    refine lv_iconst (v := 1) hx hb d_Line_open_130 (by decide) ?_
    obtain ⟨e1i, e1a, e3⟩ := re3 hm
    obtain ⟨hP, hD⟩ := x_eq e1i e1a hP hD
    exact W.zret hx hb hr (by decide) (fun t9 ht hW => ⟨⟨_, (), rfl, e3.symm, by rw [ht]; exact hP, hD⟩, hS.F ht⟩) hS.2.2 d_Line_open_131
  · replace hm := if_f c_1 hm
    refine lv_iconst (v := 0) hx hb d_Line_open_10 (by decide) ?_
    obtain ⟨e1i, e1a, e3⟩ := re3 hm
    obtain ⟨hP, hD⟩ := x_eq e1i e1a hP hD
    exact W.zret hx hb hr (by decide) (fun t9 ht hW => ⟨⟨_, (), rfl, e3.symm, by rw [ht]; exact hP, hD⟩, hS.F ht⟩) hS.2.2 d_Line_open_11

def m_Heap_count (n : Nat) (g : Nat → Nat) (i : Nat → Int32) (a : Nat → Nat → Int32) (v1 : Int32) : Option (Int32) := ob1 (v1 >>> ((2 : Int32) &&& 31) : Int32) (fun x_1 => if ((v1 &&& 3)) = ((1 : Int32)) then if x_1 ≤ ((0 : Int32)) then some 0 else if ((nI (g 0))) ≤ x_1 then some 0 else ck x_1 (g 0) (some ((a 0 x_1.toNatClampNeg) &&& 8191)) else some 0)
set_option maxHeartbeats 4000000 in
set_option maxRecDepth 100000 in
theorem x_Heap_count (l : Launch) (dC : Nat → ClassId) (dI : Nat → Nat → Nat) (cI : ClassId) (adK adV adA u o g : Nat → Nat) (sz : Nat) (n : Nat) {i : Nat → Int32} {a : Nat → Nat → Int32} {v1 : Int32} {r2 : Int32} (hm : m_Heap_count n g i a v1 = some r2) : Met l y_Heap_count w_Heap_count ({ frames := 0, cells := 0, slots := 0, locals := 0 } : Room) (va_Pc [.ref ((u 1)), .int v1] (xEr dC dI cI adK adV adA u o g i a sz)) (va_Qi (xR r2) xT (xN sz)) 0 0 (xN sz) := by
  refine Met.ofW (cc := b_Heap_count) (maxL := 3) (ret := (some .int)) (by decide) rfl ?_
  intro p e s m args below meth c s₁ B hml hv
  obtain ⟨rfl, hsz, hP, hK, hE⟩ := hv
  have hx := B.exec
  have hb := B.bytes
  have hr := B.returns
  have hts := atoms_spec (ws := w_Heap_count) B.pre
  have htt : ∀ w ∈ tw_T, w.before _ s = true := fun w h => hts w (List.mem_cons_of_mem _ h)
  have hown : s.vm.findClass R_Heap = some m.cls := findClass_of_methodNamed B.named
  have hlocks := B.notSynchronized
  subst hsz
  generalize hAe : xN s.heap.size = A at hE ⊢
  have hA : ∀ q : Nat, s.heap.size ≤ q → A q := fun q h => by rw [← hAe]; exact Or.inr h
  have hS : va_S A s.heap s.heap [] := va_S.rf
  have hl := lv_entry ([.ref ((u 1)), .int v1]) (n := 3) (Nat.le_of_ble_eq_true rfl)
  rw [lg_entry_eq]
  generalize (lg_sl ([.ref ((u 1)), .int v1]) ++ List.replicate (3 - (lg_sl ([.ref ((u 1)), .int v1])).length) Slot.unset).toArray = ls at hl ⊢
  have hl : lv_has ls 3 [(0, .ref ((u 1))), (1, .int v1)] := hl
  rw [m_Heap_count] at hm
  refine lv_iload_n hx hb d_Heap_count_0 rfl (lv_at hl 1 rfl) ?_
  refine lv_iconst (v := 2) hx hb d_Heap_count_1 (by decide) ?_
  refine lv_ishr hx hb d_Heap_count_2 ?_
  refine lv_topi (fun x_1 ex_1 => ?_)
  replace hm := ob1_at ex_1 hm
  refine lv_istore_n (lv' := [(2, .int x_1), (0, .ref ((u 1))), (1, .int v1)]) hx hb d_Heap_count_3 rfl hl (by decide) rfl (fun ls hl => ?_)
  refine lv_iload_n hx hb d_Heap_count_4 rfl (lv_at hl 2 rfl) ?_
  refine lv_iconst (v := 3) hx hb d_Heap_count_5 (by decide) ?_
  refine lv_iand hx hb d_Heap_count_6 ?_
  refine lv_iconst (v := 1) hx hb d_Heap_count_7 (by decide) ?_
  refine lv_icmp_ne (tgt := 37) hx hb d_Heap_count_8 (by decide) (fun c_2 => ?_) (fun c_2 => ?_)
  · replace hm := if_f c_2 hm
    refine lv_iconst (v := 0) hx hb d_Heap_count_37 (by decide) ?_
    have e3 := re1 hm
    exact W.iret hx hb hr (fun t9 ht hW => ⟨⟨_, (), rfl, e3.symm, trivial⟩, hS.F ht⟩) hS.2.2 d_Heap_count_38
  · replace hm := if_t c_2 hm
    refine lv_iload_n hx hb d_Heap_count_11 rfl (lv_at hl 0 rfl) ?_
    refine lv_if_le (tgt := 37) hx hb d_Heap_count_12 (by decide) (fun c_3 => ?_) (fun c_3 => ?_)
    · replace hm := if_t c_3 hm
      refine lv_iconst (v := 0) hx hb d_Heap_count_37 (by decide) ?_
      have e3 := re1 hm
      exact W.iret hx hb hr (fun t9 ht hW => ⟨⟨_, (), rfl, e3.symm, trivial⟩, hS.F ht⟩) hS.2.2 d_Heap_count_38
    · replace hm := if_f c_3 hm
      refine lv_iload_n hx hb d_Heap_count_15 rfl (lv_at hl 0 rfl) ?_
      refine lv_aload_n hx hb d_Heap_count_16 rfl (lv_at hl 1 rfl) ?_
      refine va_get (D := (dC, dI)) (ci := 1) (v := .ref ((o 0))) (C := R_Heap) (T := F_Heap) (N := 12) hx hb htt iw_Heap hown hK hP 1 xo_1 rfl 5 (Nat.le_of_ble_eq_true rfl) (htt _ lk_Heap_11) (fun _ h9 => h9) xg_1_5 d_Heap_count_17 ?_
      refine va_alen (v := nI (g 0)) hx hb hK hP 12 0 twA_0 rfl rfl d_Heap_count_20 ?_
      refine lv_icmp_ge (tgt := 37) hx hb d_Heap_count_21 (by decide) (fun c_4 => ?_) (fun c_4 => ?_)
      · replace hm := if_t c_4 hm
        refine lv_iconst (v := 0) hx hb d_Heap_count_37 (by decide) ?_
        have e3 := re1 hm
        exact W.iret hx hb hr (fun t9 ht hW => ⟨⟨_, (), rfl, e3.symm, trivial⟩, hS.F ht⟩) hS.2.2 d_Heap_count_38
      · replace hm := if_f c_4 hm
        refine lv_aload_n hx hb d_Heap_count_24 rfl (lv_at hl 1 rfl) ?_
        refine va_get (D := (dC, dI)) (ci := 1) (v := .ref ((o 0))) (C := R_Heap) (T := F_Heap) (N := 12) hx hb htt iw_Heap hown hK hP 1 xo_1 rfl 5 (Nat.le_of_ble_eq_true rfl) (htt _ lk_Heap_11) (fun _ h9 => h9) xg_1_5 d_Heap_count_25 ?_
        refine lv_iload_n hx hb d_Heap_count_28 rfl (lv_at hl 0 rfl) ?_
        obtain ⟨h_5, hm⟩ := ck_some hm
        refine va_iald hx hb hK hP 12 0 twA_0 rfl h_5 d_Heap_count_29 ?_
        refine lv_sipush (v := 8191) hx hb d_Heap_count_30 (by decide) ?_
        refine lv_iand hx hb d_Heap_count_33 ?_
        refine lv_goto (tgt := 38) hx hb d_Heap_count_34 (by decide) ?_
        have e3 := re1 hm
        exact W.iret hx hb hr (fun t9 ht hW => ⟨⟨_, (), rfl, e3.symm, trivial⟩, hS.F ht⟩) hS.2.2 d_Heap_count_38

def m_Machine_finishGiving (n : Nat) (g : Nat → Nat) (i : Nat → Int32) (a : Nat → Nat → Int32) (v1 : Int32) : Option ((Nat → Int32) × (Nat → Nat → Int32) × Int32) := ob1 (upd i 46 2 : Nat → Int32) (fun i_1 => ob1 (upd i_1 47 v1 : Nat → Int32) (fun i_2 => some (i_2, a, (-2147483584))))
set_option maxHeartbeats 4000000 in
set_option maxRecDepth 100000 in
theorem x_Machine_finishGiving (l : Launch) (dC : Nat → ClassId) (dI : Nat → Nat → Nat) (cI : ClassId) (adK adV adA u o g : Nat → Nat) (sz : Nat) (n : Nat) {i : Nat → Int32} {a : Nat → Nat → Int32} {v1 : Int32} {i2 : Nat → Int32} {a2 : Nat → Nat → Int32} {r2 : Int32} (hm : m_Machine_finishGiving n g i a v1 = some (i2, a2, r2)) : Met l y_Machine_finishGiving w_Machine_finishGiving ({ frames := 0, cells := 0, slots := 0, locals := 0 } : Room) (va_Pc [.ref ((u 11)), .int v1] (xE dC dI cI adK adV adA u o g i a sz)) (va_Qi (xR r2) (xB dC dI cI u o g i2 a2 (va_A (TW cI u o i a g) sz)) (va_A (TW cI u o i a g) sz)) 0 0 ((va_A (TW cI u o i a g) sz)) := by
  refine Met.ofW (cc := b_Machine_finishGiving) (maxL := 2) (ret := (some .int)) (by decide) rfl ?_
  intro p e s m args below meth c s₁ B hml hv
  obtain ⟨rfl, hsz, hP, hK, hE, hD0⟩ := hv
  have hx := B.exec
  have hb := B.bytes
  have hr := B.returns
  have hts := atoms_spec (ws := w_Machine_finishGiving) B.pre
  have htt : ∀ w ∈ tw_T, w.before _ s = true := fun w h => hts w (List.mem_cons_of_mem _ h)
  have hown : s.vm.findClass R_Machine = some m.cls := findClass_of_methodNamed B.named
  have hlocks := B.notSynchronized
  subst hsz
  have hD := hD0.self (sz := s.heap.size)
  generalize hAe : (va_A (TW cI u o i a g) s.heap.size) = A at hD hE ⊢
  have hA : ∀ q : Nat, s.heap.size ≤ q → A q := fun q h => by rw [← hAe]; exact Or.inr h
  have hS : va_S A s.heap s.heap [] := va_S.rf
  have hl := lv_entry ([.ref ((u 11)), .int v1]) (n := 2) (Nat.le_of_ble_eq_true rfl)
  rw [lg_entry_eq]
  generalize (lg_sl ([.ref ((u 11)), .int v1]) ++ List.replicate (2 - (lg_sl ([.ref ((u 11)), .int v1])).length) Slot.unset).toArray = ls at hl ⊢
  have hl : lv_has ls 2 [(0, .ref ((u 11))), (1, .int v1)] := hl
  rw [m_Machine_finishGiving] at hm
  refine lv_aload_n hx hb d_Machine_finishGiving_0 rfl (lv_at hl 0 rfl) ?_
  refine lv_iconst (v := 2) hx hb d_Machine_finishGiving_1 (by decide) ?_
  refine va_put (D := (dC, dI)) (ci := 11) (v := .int 2) (ty := .int) (C := R_Machine) (T := F_Machine) (N := 9) hx hb htt iw_Machine t_Machine t_Machine_ok n_Machine hown hK hP hD hS 11 xo_11 rfl 7 (Nat.le_of_ble_eq_true rfl) (htt _ lk_Machine_62) (fun _ h9 => h9) rfl (by decide +kernel) rfl rfl xl_11_7 d_Machine_finishGiving_2 (fun H locs hP hD hS => ?_)
  obtain ⟨i_1, ei_1⟩ : ∃ y9 : Nat → Int32, y9 = upd i 46 2 := ⟨_, rfl⟩
  replace hm := ob1_at ei_1 hm
  obtain ⟨hP, hD⟩ := xw_46 ei_1 hP hD
  refine lv_aload_n hx hb d_Machine_finishGiving_5 rfl (lv_at hl 0 rfl) ?_
  refine lv_iload_n hx hb d_Machine_finishGiving_6 rfl (lv_at hl 1 rfl) ?_
  refine va_put (D := (dC, dI)) (ci := 11) (v := .int v1) (ty := .int) (C := R_Machine) (T := F_Machine) (N := 9) hx hb htt iw_Machine t_Machine t_Machine_ok n_Machine hown hK hP hD hS 11 xo_11 rfl 8 (Nat.le_of_ble_eq_true rfl) (htt _ lk_Machine_111) (fun _ h9 => h9) rfl (by decide +kernel) rfl rfl xl_11_8 d_Machine_finishGiving_7 (fun H locs hP hD hS => ?_)
  obtain ⟨i_2, ei_2⟩ : ∃ y9 : Nat → Int32, y9 = upd i_1 47 v1 := ⟨_, rfl⟩
  replace hm := ob1_at ei_2 hm
  obtain ⟨hP, hD⟩ := xw_47 ei_2 hP hD
  refine lv_ldc (v := (-2147483584)) hx hb hown (htt _ lk_Machine_110) d_Machine_finishGiving_10 ?_
  obtain ⟨e1i, e1a, e3⟩ := re3 hm
  obtain ⟨hP, hD⟩ := x_eq e1i e1a hP hD
  exact W.iret hx hb hr (fun t9 ht hW => ⟨⟨_, (), rfl, e3.symm, by rw [ht]; exact hP, hD⟩, hS.F ht⟩) hS.2.2 d_Machine_finishGiving_12

def m_Waiting_meet (n : Nat) (g : Nat → Nat) (i : Nat → Int32) (a : Nat → Nat → Int32) (v1 : Int32) (v2 : Int32) (v3 : Int32) (v4 : Int32) : Option ((Nat → Int32) × (Nat → Nat → Int32) × Int32) := if ((400 : Int32)) < ((i 42)) then some (i, a, (0 : Int32)) else ck ((i 42)) 401 (ob1 (sv a 47 (i 42).toNatClampNeg v1 : Nat → Nat → Int32) (fun a_3 => ck ((i 42)) 401 (ob1 (sv a_3 48 (i 42).toNatClampNeg v2 : Nat → Nat → Int32) (fun a_5 => ck ((i 42)) 401 (ob1 (sv a_5 49 (i 42).toNatClampNeg v3 : Nat → Nat → Int32) (fun a_7 => ck ((i 42)) 401 (ob1 (sv a_7 50 (i 42).toNatClampNeg v4 : Nat → Nat → Int32) (fun a_9 => ck ((i 42)) 401 (ob1 (sv a_9 51 (i 42).toNatClampNeg (i 43) : Nat → Nat → Int32) (fun a_11 => some (i, a_11, (0 : Int32))))))))))))
set_option maxHeartbeats 4000000 in
set_option maxRecDepth 100000 in
theorem x_Waiting_meet (l : Launch) (dC : Nat → ClassId) (dI : Nat → Nat → Nat) (cI : ClassId) (adK adV adA u o g : Nat → Nat) (sz : Nat) (n : Nat) {i : Nat → Int32} {a : Nat → Nat → Int32} {v1 : Int32} {v2 : Int32} {v3 : Int32} {v4 : Int32} {i2 : Nat → Int32} {a2 : Nat → Nat → Int32} {r2 : Int32} (hm : m_Waiting_meet n g i a v1 v2 v3 v4 = some (i2, a2, r2)) : Met l y_Waiting_meet w_Waiting_meet ({ frames := 0, cells := 0, slots := 0, locals := 0 } : Room) (va_Pc [.ref ((u 9)), .int v1, .int v2, .int v3, .int v4] (xE dC dI cI adK adV adA u o g i a sz)) (va_Qv xV (xB dC dI cI u o g i2 a2 (va_A (TW cI u o i a g) sz)) (va_A (TW cI u o i a g) sz)) 0 0 ((va_A (TW cI u o i a g) sz)) := by
  refine Met.ofW (cc := b_Waiting_meet) (maxL := 5) (ret := none) (by decide) rfl ?_
  intro p e s m args below meth c s₁ B hml hv
  obtain ⟨rfl, hsz, hP, hK, hE, hD0⟩ := hv
  have hx := B.exec
  have hb := B.bytes
  have hr := B.returns
  have hts := atoms_spec (ws := w_Waiting_meet) B.pre
  have htt : ∀ w ∈ tw_T, w.before _ s = true := fun w h => hts w (List.mem_cons_of_mem _ h)
  have hown : s.vm.findClass R_Waiting = some m.cls := findClass_of_methodNamed B.named
  have hlocks := B.notSynchronized
  subst hsz
  have hD := hD0.self (sz := s.heap.size)
  generalize hAe : (va_A (TW cI u o i a g) s.heap.size) = A at hD hE ⊢
  have hA : ∀ q : Nat, s.heap.size ≤ q → A q := fun q h => by rw [← hAe]; exact Or.inr h
  have hS : va_S A s.heap s.heap [] := va_S.rf
  have hl := lv_entry ([.ref ((u 9)), .int v1, .int v2, .int v3, .int v4]) (n := 5) (Nat.le_of_ble_eq_true rfl)
  rw [lg_entry_eq]
  generalize (lg_sl ([.ref ((u 9)), .int v1, .int v2, .int v3, .int v4]) ++ List.replicate (5 - (lg_sl ([.ref ((u 9)), .int v1, .int v2, .int v3, .int v4])).length) Slot.unset).toArray = ls at hl ⊢
  have hl : lv_has ls 5 [(0, .ref ((u 9))), (1, .int v1), (2, .int v2), (3, .int v3), (4, .int v4)] := hl
  rw [m_Waiting_meet] at hm
  refine lv_aload_n hx hb d_Waiting_meet_0 rfl (lv_at hl 0 rfl) ?_
  refine va_get (D := (dC, dI)) (ci := 9) (v := .int (i 42)) (C := R_Waiting) (T := F_Waiting) (N := 11) hx hb htt iw_Waiting hown hK hP 9 xo_9 rfl 7 (Nat.le_of_ble_eq_true rfl) (htt _ lk_Waiting_36) (fun _ h9 => h9) xg_9_7 d_Waiting_meet_1 ?_
  refine lv_sipush (v := 400) hx hb d_Waiting_meet_4 (by decide) ?_
  refine lv_icmp_gt (tgt := 64) hx hb d_Waiting_meet_7 (by decide) (fun c_1 => ?_) (fun c_1 => ?_)
  · replace hm := if_t c_1 hm
    obtain ⟨e1i, e1a, e3⟩ := re3 hm
    obtain ⟨hP, hD⟩ := x_eq e1i e1a hP hD
    exact W.vret hx hb hr (fun t9 ht hW => ⟨⟨(), rfl, trivial, by rw [ht]; exact hP, hD⟩, hS.F ht⟩) hS.2.2 d_Waiting_meet_64
  · replace hm := if_f c_1 hm
    refine lv_aload_n hx hb d_Waiting_meet_10 rfl (lv_at hl 0 rfl) ?_
    refine va_get (D := (dC, dI)) (ci := 9) (v := .ref ((u 57))) (C := R_Waiting) (T := F_Waiting) (N := 11) hx hb htt iw_Waiting hown hK hP 9 xo_9 rfl 0 (Nat.le_of_ble_eq_true rfl) (htt _ lk_Waiting_9) (fun _ h9 => h9) xg_9_0 d_Waiting_meet_11 ?_
    refine lv_aload_n hx hb d_Waiting_meet_14 rfl (lv_at hl 0 rfl) ?_
    refine va_get (D := (dC, dI)) (ci := 9) (v := .int (i 42)) (C := R_Waiting) (T := F_Waiting) (N := 11) hx hb htt iw_Waiting hown hK hP 9 xo_9 rfl 7 (Nat.le_of_ble_eq_true rfl) (htt _ lk_Waiting_36) (fun _ h9 => h9) xg_9_7 d_Waiting_meet_15 ?_
    refine lv_iload_n hx hb d_Waiting_meet_18 rfl (lv_at hl 1 rfl) ?_
    obtain ⟨h_2, hm⟩ := ck_some hm
    refine va_iast hx hb hK hP hD hS 59 0 twA_47 rfl h_2 d_Waiting_meet_19 (fun H locs hP hD hS => ?_)
    obtain ⟨a_3, ea_3⟩ : ∃ y9 : Nat → Nat → Int32, y9 = sv a 47 (i 42).toNatClampNeg v1 := ⟨_, rfl⟩
    replace hm := ob1_at ea_3 hm
    obtain ⟨hP, hD⟩ := xv_47 ea_3 hP hD
    refine lv_aload_n hx hb d_Waiting_meet_20 rfl (lv_at hl 0 rfl) ?_
    refine va_get (D := (dC, dI)) (ci := 9) (v := .ref ((u 58))) (C := R_Waiting) (T := F_Waiting) (N := 11) hx hb htt iw_Waiting hown hK hP 9 xo_9 rfl 1 (Nat.le_of_ble_eq_true rfl) (htt _ lk_Waiting_15) (fun _ h9 => h9) xg_9_1 d_Waiting_meet_21 ?_
    refine lv_aload_n hx hb d_Waiting_meet_24 rfl (lv_at hl 0 rfl) ?_
    refine va_get (D := (dC, dI)) (ci := 9) (v := .int (i 42)) (C := R_Waiting) (T := F_Waiting) (N := 11) hx hb htt iw_Waiting hown hK hP 9 xo_9 rfl 7 (Nat.le_of_ble_eq_true rfl) (htt _ lk_Waiting_36) (fun _ h9 => h9) xg_9_7 d_Waiting_meet_25 ?_
    refine lv_iload_n hx hb d_Waiting_meet_28 rfl (lv_at hl 2 rfl) ?_
    obtain ⟨h_4, hm⟩ := ck_some hm
    refine va_iast hx hb hK hP hD hS 60 0 twA_48 rfl h_4 d_Waiting_meet_29 (fun H locs hP hD hS => ?_)
    obtain ⟨a_5, ea_5⟩ : ∃ y9 : Nat → Nat → Int32, y9 = sv a_3 48 (i 42).toNatClampNeg v2 := ⟨_, rfl⟩
    replace hm := ob1_at ea_5 hm
    obtain ⟨hP, hD⟩ := xv_48 ea_5 hP hD
    refine lv_aload_n hx hb d_Waiting_meet_30 rfl (lv_at hl 0 rfl) ?_
    refine va_get (D := (dC, dI)) (ci := 9) (v := .ref ((u 59))) (C := R_Waiting) (T := F_Waiting) (N := 11) hx hb htt iw_Waiting hown hK hP 9 xo_9 rfl 2 (Nat.le_of_ble_eq_true rfl) (htt _ lk_Waiting_18) (fun _ h9 => h9) xg_9_2 d_Waiting_meet_31 ?_
    refine lv_aload_n hx hb d_Waiting_meet_34 rfl (lv_at hl 0 rfl) ?_
    refine va_get (D := (dC, dI)) (ci := 9) (v := .int (i 42)) (C := R_Waiting) (T := F_Waiting) (N := 11) hx hb htt iw_Waiting hown hK hP 9 xo_9 rfl 7 (Nat.le_of_ble_eq_true rfl) (htt _ lk_Waiting_36) (fun _ h9 => h9) xg_9_7 d_Waiting_meet_35 ?_
    refine lv_iload_n hx hb d_Waiting_meet_38 rfl (lv_at hl 3 rfl) ?_
    obtain ⟨h_6, hm⟩ := ck_some hm
    refine va_iast hx hb hK hP hD hS 61 0 twA_49 rfl h_6 d_Waiting_meet_39 (fun H locs hP hD hS => ?_)
    obtain ⟨a_7, ea_7⟩ : ∃ y9 : Nat → Nat → Int32, y9 = sv a_5 49 (i 42).toNatClampNeg v3 := ⟨_, rfl⟩
    replace hm := ob1_at ea_7 hm
    obtain ⟨hP, hD⟩ := xv_49 ea_7 hP hD
    refine lv_aload_n hx hb d_Waiting_meet_40 rfl (lv_at hl 0 rfl) ?_
    refine va_get (D := (dC, dI)) (ci := 9) (v := .ref ((u 60))) (C := R_Waiting) (T := F_Waiting) (N := 11) hx hb htt iw_Waiting hown hK hP 9 xo_9 rfl 3 (Nat.le_of_ble_eq_true rfl) (htt _ lk_Waiting_21) (fun _ h9 => h9) xg_9_3 d_Waiting_meet_41 ?_
    refine lv_aload_n hx hb d_Waiting_meet_44 rfl (lv_at hl 0 rfl) ?_
    refine va_get (D := (dC, dI)) (ci := 9) (v := .int (i 42)) (C := R_Waiting) (T := F_Waiting) (N := 11) hx hb htt iw_Waiting hown hK hP 9 xo_9 rfl 7 (Nat.le_of_ble_eq_true rfl) (htt _ lk_Waiting_36) (fun _ h9 => h9) xg_9_7 d_Waiting_meet_45 ?_
    refine lv_iload hx hb d_Waiting_meet_48 (lv_at hl 4 rfl) ?_
    obtain ⟨h_8, hm⟩ := ck_some hm
    refine va_iast hx hb hK hP hD hS 62 0 twA_50 rfl h_8 d_Waiting_meet_50 (fun H locs hP hD hS => ?_)
    obtain ⟨a_9, ea_9⟩ : ∃ y9 : Nat → Nat → Int32, y9 = sv a_7 50 (i 42).toNatClampNeg v4 := ⟨_, rfl⟩
    replace hm := ob1_at ea_9 hm
    obtain ⟨hP, hD⟩ := xv_50 ea_9 hP hD
    refine lv_aload_n hx hb d_Waiting_meet_51 rfl (lv_at hl 0 rfl) ?_
    refine va_get (D := (dC, dI)) (ci := 9) (v := .ref ((u 61))) (C := R_Waiting) (T := F_Waiting) (N := 11) hx hb htt iw_Waiting hown hK hP 9 xo_9 rfl 4 (Nat.le_of_ble_eq_true rfl) (htt _ lk_Waiting_24) (fun _ h9 => h9) xg_9_4 d_Waiting_meet_52 ?_
    refine lv_aload_n hx hb d_Waiting_meet_55 rfl (lv_at hl 0 rfl) ?_
    refine va_get (D := (dC, dI)) (ci := 9) (v := .int (i 42)) (C := R_Waiting) (T := F_Waiting) (N := 11) hx hb htt iw_Waiting hown hK hP 9 xo_9 rfl 7 (Nat.le_of_ble_eq_true rfl) (htt _ lk_Waiting_36) (fun _ h9 => h9) xg_9_7 d_Waiting_meet_56 ?_
    refine lv_aload_n hx hb d_Waiting_meet_59 rfl (lv_at hl 0 rfl) ?_
    refine va_get (D := (dC, dI)) (ci := 9) (v := .int (i 43)) (C := R_Waiting) (T := F_Waiting) (N := 11) hx hb htt iw_Waiting hown hK hP 9 xo_9 rfl 9 (Nat.le_of_ble_eq_true rfl) (htt _ lk_Waiting_40) (fun _ h9 => h9) xg_9_9 d_Waiting_meet_60 ?_
    obtain ⟨h_10, hm⟩ := ck_some hm
    refine va_iast hx hb hK hP hD hS 63 0 twA_51 rfl h_10 d_Waiting_meet_63 (fun H locs hP hD hS => ?_)
    obtain ⟨a_11, ea_11⟩ : ∃ y9 : Nat → Nat → Int32, y9 = sv a_9 51 (i 42).toNatClampNeg (i 43) := ⟨_, rfl⟩
    replace hm := ob1_at ea_11 hm
    obtain ⟨hP, hD⟩ := xv_51 ea_11 hP hD
    obtain ⟨e1i, e1a, e3⟩ := re3 hm
    obtain ⟨hP, hD⟩ := x_eq e1i e1a hP hD
    exact W.vret hx hb hr (fun t9 ht hW => ⟨⟨(), rfl, trivial, by rw [ht]; exact hP, hD⟩, hS.F ht⟩) hS.2.2 d_Waiting_meet_64

def m_Waiting_settleLast_b38 (n : Nat) (g : Nat → Nat) (i : Nat → Int32) (a : Nat → Nat → Int32)  : Option ((Nat → Int32) × (Nat → Nat → Int32) × Int32) := if ((i 42)) < ((400 : Int32)) then ob1 ((i 42) + 1 : Int32) (fun x_2 => ob1 (upd i 42 x_2 : Nat → Int32) (fun i_3 => some (i_3, a, (-2147483584)))) else some (i, a, (-2147483642))
set_option maxHeartbeats 4000000 in
set_option maxRecDepth 100000 in
theorem lb_Waiting_settleLast_38 (l : Launch) (dC : Nat → ClassId) (dI : Nat → Nat → Nat) (cI : ClassId) (adK adV adA u o g : Nat → Nat) (n : Nat) {p : Program} {e : Env} {s : State} {m : MethodId} {args : Array Value} {below : List Frame} {meth : Method} {c : Code} {A : Nat → Prop} (hx : p.tables.exec = Jvm.exec) (hb : c.code = b_Waiting_settleLast) (hml : c.maxLocals = 1) (hown : s.vm.findClass R_Waiting = some m.cls) (hts : ∀ w ∈ w_Waiting_settleLast, w.before args s = true) (hK : va_K (dC, dI) classes [(cI, .int)] s) (hE : tw_E adK adV adA A s s.heap) (hA : ∀ q : Nat, s.heap.size ≤ q → A q) (hr : meth.sig.returnType = (some .int)) (hlocks : meth.locks = false) {i2 : Nat → Int32} {a2 : Nat → Nat → Int32} {r2 : Int32} (i : Nat → Int32) (a : Nat → Nat → Int32)  (hm : m_Waiting_settleLast_b38 n g i a = some (i2, a2, r2)) : ∀ (H : Heap) (locs : List Loc) (ls : Array Slot), va_P (dC, dI) classes (TW cI u o i a g) H → va_D A (TW cI u o i a g) → va_S A s.heap H locs → lv_has ls 1 [(0, .ref ((u 9)))] → W p l e ({ frames := 0, cells := 0, slots := 0, locals := 0 } : Room) s m args below meth c H locs 0 0 (MQ below (va_Qi (xR r2) (xB dC dI cI u o g i2 a2 A) A) args s 0 0 A) (F0 m 38 ls []) := by
  have htt : ∀ w ∈ tw_T, w.before _ s = true := fun w h => hts w (List.mem_cons_of_mem _ h)
  intro H locs ls hP hD hS hl
  rw [m_Waiting_settleLast_b38] at hm
  refine lv_aload_n hx hb d_Waiting_settleLast_38 rfl (lv_at hl 0 rfl) ?_
  refine va_get (D := (dC, dI)) (ci := 9) (v := .int (i 42)) (C := R_Waiting) (T := F_Waiting) (N := 11) hx hb htt iw_Waiting hown hK hP 9 xo_9 rfl 7 (Nat.le_of_ble_eq_true rfl) (htt _ lk_Waiting_36) (fun _ h9 => h9) xg_9_7 d_Waiting_settleLast_39 ?_
  refine lv_sipush (v := 400) hx hb d_Waiting_settleLast_42 (by decide) ?_
  refine lv_icmp_lt (tgt := 51) hx hb d_Waiting_settleLast_45 (by decide) (fun c_1 => ?_) (fun c_1 => ?_)
  · replace hm := if_t c_1 hm
    refine lv_aload_n hx hb d_Waiting_settleLast_51 rfl (lv_at hl 0 rfl) ?_
    refine lv_dup hx hb d_Waiting_settleLast_52 rfl ?_
    refine va_get (D := (dC, dI)) (ci := 9) (v := .int (i 42)) (C := R_Waiting) (T := F_Waiting) (N := 11) hx hb htt iw_Waiting hown hK hP 9 xo_9 rfl 7 (Nat.le_of_ble_eq_true rfl) (htt _ lk_Waiting_36) (fun _ h9 => h9) xg_9_7 d_Waiting_settleLast_53 ?_
    refine lv_iconst (v := 1) hx hb d_Waiting_settleLast_56 (by decide) ?_
    refine lv_iadd hx hb d_Waiting_settleLast_57 ?_
    refine lv_topi (fun x_2 ex_2 => ?_)
    replace hm := ob1_at ex_2 hm
    refine va_put (D := (dC, dI)) (ci := 9) (v := .int x_2) (ty := .int) (C := R_Waiting) (T := F_Waiting) (N := 11) hx hb htt iw_Waiting t_Waiting t_Waiting_ok n_Waiting hown hK hP hD hS 9 xo_9 rfl 7 (Nat.le_of_ble_eq_true rfl) (htt _ lk_Waiting_36) (fun _ h9 => h9) rfl (by decide +kernel) rfl rfl xl_9_7 d_Waiting_settleLast_58 (fun H locs hP hD hS => ?_)
    obtain ⟨i_3, ei_3⟩ : ∃ y9 : Nat → Int32, y9 = upd i 42 x_2 := ⟨_, rfl⟩
    replace hm := ob1_at ei_3 hm
    obtain ⟨hP, hD⟩ := xw_42 ei_3 hP hD
    refine lv_ldc (v := (-2147483584)) hx hb hown (htt _ lk_Waiting_50) d_Waiting_settleLast_61 ?_
    obtain ⟨e1i, e1a, e3⟩ := re3 hm
    obtain ⟨hP, hD⟩ := x_eq e1i e1a hP hD
    exact W.iret hx hb hr (fun t9 ht hW => ⟨⟨_, (), rfl, e3.symm, by rw [ht]; exact hP, hD⟩, hS.F ht⟩) hS.2.2 d_Waiting_settleLast_63
  · replace hm := if_f c_1 hm
    refine lv_ldc (v := (-2147483642)) hx hb hown (htt _ lk_Waiting_51) d_Waiting_settleLast_48 ?_
    obtain ⟨e1i, e1a, e3⟩ := re3 hm
    obtain ⟨hP, hD⟩ := x_eq e1i e1a hP hD
    exact W.iret hx hb hr (fun t9 ht hW => ⟨⟨_, (), rfl, e3.symm, by rw [ht]; exact hP, hD⟩, hS.F ht⟩) hS.2.2 d_Waiting_settleLast_50
def m_Waiting_settleLast (n : Nat) (g : Nat → Nat) (i : Nat → Int32) (a : Nat → Nat → Int32)  : Option ((Nat → Int32) × (Nat → Nat → Int32) × Int32) := if ((400 : Int32)) < ((i 42)) then m_Waiting_settleLast_b38 n g i a else ck ((i 42)) 401 (if ((a 49 (i 42).toNatClampNeg)) = ((0 : Int32)) then ck ((i 42)) 401 (ob1 (a 47 (i 42).toNatClampNeg : Int32) (fun x_5 => ob1 (upd i 44 x_5 : Nat → Int32) (fun i_6 => some (i_6, a, (-2147483584))))) else m_Waiting_settleLast_b38 n g i a)
set_option maxHeartbeats 4000000 in
set_option maxRecDepth 100000 in
theorem x_Waiting_settleLast (l : Launch) (dC : Nat → ClassId) (dI : Nat → Nat → Nat) (cI : ClassId) (adK adV adA u o g : Nat → Nat) (sz : Nat) (n : Nat) {i : Nat → Int32} {a : Nat → Nat → Int32}  {i2 : Nat → Int32} {a2 : Nat → Nat → Int32} {r2 : Int32} (hm : m_Waiting_settleLast n g i a = some (i2, a2, r2)) : Met l y_Waiting_settleLast w_Waiting_settleLast ({ frames := 0, cells := 0, slots := 0, locals := 0 } : Room) (va_Pc [.ref ((u 9))] (xE dC dI cI adK adV adA u o g i a sz)) (va_Qi (xR r2) (xB dC dI cI u o g i2 a2 (va_A (TW cI u o i a g) sz)) (va_A (TW cI u o i a g) sz)) 0 0 ((va_A (TW cI u o i a g) sz)) := by
  refine Met.ofW (cc := b_Waiting_settleLast) (maxL := 1) (ret := (some .int)) (by decide) rfl ?_
  intro p e s m args below meth c s₁ B hml hv
  obtain ⟨rfl, hsz, hP, hK, hE, hD0⟩ := hv
  have hx := B.exec
  have hb := B.bytes
  have hr := B.returns
  have hts := atoms_spec (ws := w_Waiting_settleLast) B.pre
  have htt : ∀ w ∈ tw_T, w.before _ s = true := fun w h => hts w (List.mem_cons_of_mem _ h)
  have hown : s.vm.findClass R_Waiting = some m.cls := findClass_of_methodNamed B.named
  have hlocks := B.notSynchronized
  subst hsz
  have hD := hD0.self (sz := s.heap.size)
  generalize hAe : (va_A (TW cI u o i a g) s.heap.size) = A at hD hE ⊢
  have hA : ∀ q : Nat, s.heap.size ≤ q → A q := fun q h => by rw [← hAe]; exact Or.inr h
  have hS : va_S A s.heap s.heap [] := va_S.rf
  have hl := lv_entry ([.ref ((u 9))]) (n := 1) (Nat.le_of_ble_eq_true rfl)
  rw [lg_entry_eq]
  generalize (lg_sl ([.ref ((u 9))]) ++ List.replicate (1 - (lg_sl ([.ref ((u 9))])).length) Slot.unset).toArray = ls at hl ⊢
  have hl : lv_has ls 1 [(0, .ref ((u 9)))] := hl
  rw [m_Waiting_settleLast] at hm
  refine lv_aload_n hx hb d_Waiting_settleLast_0 rfl (lv_at hl 0 rfl) ?_
  refine va_get (D := (dC, dI)) (ci := 9) (v := .int (i 42)) (C := R_Waiting) (T := F_Waiting) (N := 11) hx hb htt iw_Waiting hown hK hP 9 xo_9 rfl 7 (Nat.le_of_ble_eq_true rfl) (htt _ lk_Waiting_36) (fun _ h9 => h9) xg_9_7 d_Waiting_settleLast_1 ?_
  refine lv_sipush (v := 400) hx hb d_Waiting_settleLast_4 (by decide) ?_
  refine lv_icmp_gt (tgt := 38) hx hb d_Waiting_settleLast_7 (by decide) (fun c_1 => ?_) (fun c_1 => ?_)
  · replace hm := if_t c_1 hm
    exact lb_Waiting_settleLast_38 l dC dI cI adK adV adA u o g n hx hb hml hown hts hK hE hA hr hlocks _ _ hm _ _ _ hP hD hS (lv_sub hl [0] rfl)
  · replace hm := if_f c_1 hm
    refine lv_aload_n hx hb d_Waiting_settleLast_10 rfl (lv_at hl 0 rfl) ?_
    refine va_get (D := (dC, dI)) (ci := 9) (v := .ref ((u 59))) (C := R_Waiting) (T := F_Waiting) (N := 11) hx hb htt iw_Waiting hown hK hP 9 xo_9 rfl 2 (Nat.le_of_ble_eq_true rfl) (htt _ lk_Waiting_18) (fun _ h9 => h9) xg_9_2 d_Waiting_settleLast_11 ?_
    refine lv_aload_n hx hb d_Waiting_settleLast_14 rfl (lv_at hl 0 rfl) ?_
    refine va_get (D := (dC, dI)) (ci := 9) (v := .int (i 42)) (C := R_Waiting) (T := F_Waiting) (N := 11) hx hb htt iw_Waiting hown hK hP 9 xo_9 rfl 7 (Nat.le_of_ble_eq_true rfl) (htt _ lk_Waiting_36) (fun _ h9 => h9) xg_9_7 d_Waiting_settleLast_15 ?_
    obtain ⟨h_2, hm⟩ := ck_some hm
    refine va_iald hx hb hK hP 61 0 twA_49 rfl h_2 d_Waiting_settleLast_18 ?_
    refine lv_if_ne (tgt := 38) hx hb d_Waiting_settleLast_19 (by decide) (fun c_3 => ?_) (fun c_3 => ?_)
    · replace hm := if_f c_3 hm
      exact lb_Waiting_settleLast_38 l dC dI cI adK adV adA u o g n hx hb hml hown hts hK hE hA hr hlocks _ _ hm _ _ _ hP hD hS (lv_sub hl [0] rfl)
    · replace hm := if_t c_3 hm
      refine lv_aload_n hx hb d_Waiting_settleLast_22 rfl (lv_at hl 0 rfl) ?_
      refine lv_aload_n hx hb d_Waiting_settleLast_23 rfl (lv_at hl 0 rfl) ?_
      refine va_get (D := (dC, dI)) (ci := 9) (v := .ref ((u 57))) (C := R_Waiting) (T := F_Waiting) (N := 11) hx hb htt iw_Waiting hown hK hP 9 xo_9 rfl 0 (Nat.le_of_ble_eq_true rfl) (htt _ lk_Waiting_9) (fun _ h9 => h9) xg_9_0 d_Waiting_settleLast_24 ?_
      refine lv_aload_n hx hb d_Waiting_settleLast_27 rfl (lv_at hl 0 rfl) ?_
      refine va_get (D := (dC, dI)) (ci := 9) (v := .int (i 42)) (C := R_Waiting) (T := F_Waiting) (N := 11) hx hb htt iw_Waiting hown hK hP 9 xo_9 rfl 7 (Nat.le_of_ble_eq_true rfl) (htt _ lk_Waiting_36) (fun _ h9 => h9) xg_9_7 d_Waiting_settleLast_28 ?_
      obtain ⟨h_4, hm⟩ := ck_some hm
      refine va_iald hx hb hK hP 59 0 twA_47 rfl h_4 d_Waiting_settleLast_31 ?_
      refine lv_topi (fun x_5 ex_5 => ?_)
      replace hm := ob1_at ex_5 hm
      refine va_put (D := (dC, dI)) (ci := 9) (v := .int x_5) (ty := .int) (C := R_Waiting) (T := F_Waiting) (N := 11) hx hb htt iw_Waiting t_Waiting t_Waiting_ok n_Waiting hown hK hP hD hS 9 xo_9 rfl 10 (Nat.le_of_ble_eq_true rfl) (htt _ lk_Waiting_43) (fun _ h9 => h9) rfl (by decide +kernel) rfl rfl xl_9_10 d_Waiting_settleLast_32 (fun H locs hP hD hS => ?_)
      obtain ⟨i_6, ei_6⟩ : ∃ y9 : Nat → Int32, y9 = upd i 44 x_5 := ⟨_, rfl⟩
      replace hm := ob1_at ei_6 hm
      obtain ⟨hP, hD⟩ := xw_44 ei_6 hP hD
      refine lv_ldc (v := (-2147483584)) hx hb hown (htt _ lk_Waiting_50) d_Waiting_settleLast_35 ?_
      obtain ⟨e1i, e1a, e3⟩ := re3 hm
      obtain ⟨hP, hD⟩ := x_eq e1i e1a hP hD
      exact W.iret hx hb hr (fun t9 ht hW => ⟨⟨_, (), rfl, e3.symm, by rw [ht]; exact hP, hD⟩, hS.F ht⟩) hS.2.2 d_Waiting_settleLast_37
