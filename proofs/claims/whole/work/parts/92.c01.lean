theorem d_Output_send_0 : decode b_Output_send 0 = .ok (.iconst 0, 1) := by decide +kernel
theorem d_Output_send_1 : decode b_Output_send 1 = .ok (.istore_n 1, 1) := by decide +kernel
theorem d_Output_send_2 : decode b_Output_send 2 = .ok (.iload_n 1, 1) := by decide +kernel
theorem d_Output_send_3 : decode b_Output_send 3 = .ok (.aload_n 0, 1) := by decide +kernel
theorem d_Output_send_4 : decode b_Output_send 4 = .ok (.getfield 31, 3) := by decide +kernel
theorem d_Output_send_7 : decode b_Output_send 7 = .ok (.if_icmp .ge 66, 3) := by decide +kernel
theorem d_Output_send_10 : decode b_Output_send 10 = .ok (.aload_n 0, 1) := by decide +kernel
theorem d_Output_send_11 : decode b_Output_send 11 = .ok (.getfield 11, 3) := by decide +kernel
theorem d_Output_send_14 : decode b_Output_send 14 = .ok (.aload_n 0, 1) := by decide +kernel
theorem d_Output_send_15 : decode b_Output_send 15 = .ok (.getfield 61, 3) := by decide +kernel
theorem d_Output_send_18 : decode b_Output_send 18 = .ok (.aload_n 0, 1) := by decide +kernel
theorem d_Output_send_19 : decode b_Output_send 19 = .ok (.getfield 18, 3) := by decide +kernel
theorem d_Output_send_22 : decode b_Output_send 22 = .ok (.iload_n 1, 1) := by decide +kernel
theorem d_Output_send_23 : decode b_Output_send 23 = .ok (.iaload, 1) := by decide +kernel
theorem d_Output_send_24 : decode b_Output_send 24 = .ok (.iastore, 1) := by decide +kernel
theorem d_Output_send_25 : decode b_Output_send 25 = .ok (.aload_n 0, 1) := by decide +kernel
theorem d_Output_send_26 : decode b_Output_send 26 = .ok (.aload_n 0, 1) := by decide +kernel
theorem d_Output_send_27 : decode b_Output_send 27 = .ok (.getfield 61, 3) := by decide +kernel
theorem d_Output_send_30 : decode b_Output_send 30 = .ok (.iconst 1, 1) := by decide +kernel
theorem d_Output_send_31 : decode b_Output_send 31 = .ok (.iadd, 1) := by decide +kernel
theorem d_Output_send_32 : decode b_Output_send 32 = .ok (.sipush 2000, 3) := by decide +kernel
theorem d_Output_send_35 : decode b_Output_send 35 = .ok (.if_icmp .ge 12, 3) := by decide +kernel
theorem d_Output_send_38 : decode b_Output_send 38 = .ok (.aload_n 0, 1) := by decide +kernel
theorem d_Output_send_39 : decode b_Output_send 39 = .ok (.getfield 61, 3) := by decide +kernel
theorem d_Output_send_42 : decode b_Output_send 42 = .ok (.iconst 1, 1) := by decide +kernel
theorem d_Output_send_43 : decode b_Output_send 43 = .ok (.iadd, 1) := by decide +kernel
theorem d_Output_send_44 : decode b_Output_send 44 = .ok (.goto 4, 3) := by decide +kernel
theorem d_Output_send_47 : decode b_Output_send 47 = .ok (.iconst 0, 1) := by decide +kernel
theorem d_Output_send_48 : decode b_Output_send 48 = .ok (.putfield 61, 3) := by decide +kernel
theorem d_Output_send_51 : decode b_Output_send 51 = .ok (.aload_n 0, 1) := by decide +kernel
theorem d_Output_send_52 : decode b_Output_send 52 = .ok (.aload_n 0, 1) := by decide +kernel
theorem d_Output_send_53 : decode b_Output_send 53 = .ok (.getfield 64, 3) := by decide +kernel
theorem d_Output_send_56 : decode b_Output_send 56 = .ok (.iconst 1, 1) := by decide +kernel
theorem d_Output_send_57 : decode b_Output_send 57 = .ok (.iadd, 1) := by decide +kernel
theorem d_Output_send_58 : decode b_Output_send 58 = .ok (.sipush 2000, 3) := by decide +kernel
theorem d_Output_send_61 : decode b_Output_send 61 = .ok (.invokestatic 67, 3) := by decide +kernel
theorem d_Output_send_64 : decode b_Output_send 64 = .ok (.putfield 64, 3) := by decide +kernel
theorem d_Output_send_67 : decode b_Output_send 67 = .ok (.iinc 1 1, 3) := by decide +kernel
theorem d_Output_send_70 : decode b_Output_send 70 = .ok (.goto (-68), 3) := by decide +kernel
theorem d_Output_send_73 : decode b_Output_send 73 = .ok (.return_, 1) := by decide +kernel
theorem lk_Output_67 : Cond.methodLink "TurtleWorld$Output" 67 ⟨"java/lang/Math", "min", "(II)I"⟩ ∈ tw_T := tw_i7 57 (by decide +kernel) (by decide +kernel)
theorem lk_Output_72 : Cond.methodLink "TurtleWorld$Output" 72 ⟨"java/lang/Math", "floorMod", "(II)I"⟩ ∈ tw_T := tw_i7 173 (by decide +kernel) (by decide +kernel)
theorem hd_Math_floorMod : y_Math_floorMod.cls ≠ "java/lang/invoke/MethodHandle" ∧ y_Math_floorMod.cls ≠ "java/lang/invoke/VarHandle" ∧ (parseMethodDescriptor y_Math_floorMod.desc).map (fun d => d.parameters.length) = some 2 := by decide +kernel
theorem hd_Lexicon_hashOf : y_Lexicon_hashOf.cls ≠ "java/lang/invoke/MethodHandle" ∧ y_Lexicon_hashOf.cls ≠ "java/lang/invoke/VarHandle" ∧ (parseMethodDescriptor y_Lexicon_hashOf.desc).map (fun d => d.parameters.length) = some 2 := by decide +kernel
theorem hd_Reader_hasRoom : y_Reader_hasRoom.cls ≠ "java/lang/invoke/MethodHandle" ∧ y_Reader_hasRoom.cls ≠ "java/lang/invoke/VarHandle" ∧ (parseMethodDescriptor y_Reader_hasRoom.desc).map (fun d => d.parameters.length) = some 0 := by decide +kernel
theorem hd_Reader_addBytes : y_Reader_addBytes.cls ≠ "java/lang/invoke/MethodHandle" ∧ y_Reader_addBytes.cls ≠ "java/lang/invoke/VarHandle" ∧ (parseMethodDescriptor y_Reader_addBytes.desc).map (fun d => d.parameters.length) = some 1 := by decide +kernel
theorem hd_Reader_cut : y_Reader_cut.cls ≠ "java/lang/invoke/MethodHandle" ∧ y_Reader_cut.cls ≠ "java/lang/invoke/VarHandle" ∧ (parseMethodDescriptor y_Reader_cut.desc).map (fun d => d.parameters.length) = some 1 := by decide +kernel
theorem hd_Reader_isSign : y_Reader_isSign.cls ≠ "java/lang/invoke/MethodHandle" ∧ y_Reader_isSign.cls ≠ "java/lang/invoke/VarHandle" ∧ (parseMethodDescriptor y_Reader_isSign.desc).map (fun d => d.parameters.length) = some 1 := by decide +kernel
theorem d_Reader_beginsNumber_0 : decode b_Reader_beginsNumber 0 = .ok (.iload_n 1, 1) := by decide +kernel
theorem d_Reader_beginsNumber_1 : decode b_Reader_beginsNumber 1 = .ok (.iconst 1, 1) := by decide +kernel
theorem d_Reader_beginsNumber_2 : decode b_Reader_beginsNumber 2 = .ok (.iadd, 1) := by decide +kernel
theorem d_Reader_beginsNumber_3 : decode b_Reader_beginsNumber 3 = .ok (.aload_n 0, 1) := by decide +kernel
theorem d_Reader_beginsNumber_4 : decode b_Reader_beginsNumber 4 = .ok (.getfield 38, 3) := by decide +kernel
theorem d_Reader_beginsNumber_7 : decode b_Reader_beginsNumber 7 = .ok (.if_icmp .ge 17, 3) := by decide +kernel
theorem d_Reader_beginsNumber_10 : decode b_Reader_beginsNumber 10 = .ok (.aload_n 0, 1) := by decide +kernel
theorem d_Reader_beginsNumber_11 : decode b_Reader_beginsNumber 11 = .ok (.getfield 11, 3) := by decide +kernel
theorem d_Reader_beginsNumber_14 : decode b_Reader_beginsNumber 14 = .ok (.iload_n 1, 1) := by decide +kernel
theorem d_Reader_beginsNumber_15 : decode b_Reader_beginsNumber 15 = .ok (.iconst 1, 1) := by decide +kernel
theorem d_Reader_beginsNumber_16 : decode b_Reader_beginsNumber 16 = .ok (.iadd, 1) := by decide +kernel
theorem d_Reader_beginsNumber_17 : decode b_Reader_beginsNumber 17 = .ok (.iaload, 1) := by decide +kernel
theorem d_Reader_beginsNumber_18 : decode b_Reader_beginsNumber 18 = .ok (.invokestatic 97, 3) := by decide +kernel
theorem d_Reader_beginsNumber_21 : decode b_Reader_beginsNumber 21 = .ok (.ifCond .ne 5, 3) := by decide +kernel
theorem d_Reader_beginsNumber_24 : decode b_Reader_beginsNumber 24 = .ok (.iconst 0, 1) := by decide +kernel
theorem d_Reader_beginsNumber_25 : decode b_Reader_beginsNumber 25 = .ok (.ireturn, 1) := by decide +kernel
theorem d_Reader_beginsNumber_26 : decode b_Reader_beginsNumber 26 = .ok (.iload_n 1, 1) := by decide +kernel
theorem d_Reader_beginsNumber_27 : decode b_Reader_beginsNumber 27 = .ok (.ifCond .ne 8, 3) := by decide +kernel
theorem d_Reader_beginsNumber_30 : decode b_Reader_beginsNumber 30 = .ok (.bipush 32, 2) := by decide +kernel
theorem d_Reader_beginsNumber_32 : decode b_Reader_beginsNumber 32 = .ok (.goto 11, 3) := by decide +kernel
theorem d_Reader_beginsNumber_35 : decode b_Reader_beginsNumber 35 = .ok (.aload_n 0, 1) := by decide +kernel
theorem d_Reader_beginsNumber_36 : decode b_Reader_beginsNumber 36 = .ok (.getfield 11, 3) := by decide +kernel
theorem d_Reader_beginsNumber_39 : decode b_Reader_beginsNumber 39 = .ok (.iload_n 1, 1) := by decide +kernel
theorem d_Reader_beginsNumber_40 : decode b_Reader_beginsNumber 40 = .ok (.iconst 1, 1) := by decide +kernel
theorem d_Reader_beginsNumber_41 : decode b_Reader_beginsNumber 41 = .ok (.isub, 1) := by decide +kernel
theorem d_Reader_beginsNumber_42 : decode b_Reader_beginsNumber 42 = .ok (.iaload, 1) := by decide +kernel
theorem d_Reader_beginsNumber_43 : decode b_Reader_beginsNumber 43 = .ok (.istore_n 2, 1) := by decide +kernel
theorem d_Reader_beginsNumber_44 : decode b_Reader_beginsNumber 44 = .ok (.iload_n 2, 1) := by decide +kernel
theorem d_Reader_beginsNumber_45 : decode b_Reader_beginsNumber 45 = .ok (.bipush 10, 2) := by decide +kernel
theorem d_Reader_beginsNumber_47 : decode b_Reader_beginsNumber 47 = .ok (.if_icmp .eq 28, 3) := by decide +kernel
theorem d_Reader_beginsNumber_50 : decode b_Reader_beginsNumber 50 = .ok (.iload_n 2, 1) := by decide +kernel
theorem d_Reader_beginsNumber_51 : decode b_Reader_beginsNumber 51 = .ok (.bipush 32, 2) := by decide +kernel
theorem d_Reader_beginsNumber_53 : decode b_Reader_beginsNumber 53 = .ok (.if_icmp .eq 22, 3) := by decide +kernel
theorem d_Reader_beginsNumber_56 : decode b_Reader_beginsNumber 56 = .ok (.iload_n 2, 1) := by decide +kernel
theorem d_Reader_beginsNumber_57 : decode b_Reader_beginsNumber 57 = .ok (.bipush 91, 2) := by decide +kernel
theorem d_Reader_beginsNumber_59 : decode b_Reader_beginsNumber 59 = .ok (.if_icmp .eq 16, 3) := by decide +kernel
theorem d_Reader_beginsNumber_62 : decode b_Reader_beginsNumber 62 = .ok (.iload_n 2, 1) := by decide +kernel
theorem d_Reader_beginsNumber_63 : decode b_Reader_beginsNumber 63 = .ok (.bipush 40, 2) := by decide +kernel
theorem d_Reader_beginsNumber_65 : decode b_Reader_beginsNumber 65 = .ok (.if_icmp .eq 10, 3) := by decide +kernel
theorem d_Reader_beginsNumber_68 : decode b_Reader_beginsNumber 68 = .ok (.iload_n 2, 1) := by decide +kernel
theorem d_Reader_beginsNumber_69 : decode b_Reader_beginsNumber 69 = .ok (.invokestatic 93, 3) := by decide +kernel
theorem d_Reader_beginsNumber_72 : decode b_Reader_beginsNumber 72 = .ok (.ifCond .eq 7, 3) := by decide +kernel
theorem d_Reader_beginsNumber_75 : decode b_Reader_beginsNumber 75 = .ok (.iconst 1, 1) := by decide +kernel
theorem d_Reader_beginsNumber_76 : decode b_Reader_beginsNumber 76 = .ok (.goto 4, 3) := by decide +kernel
theorem d_Reader_beginsNumber_79 : decode b_Reader_beginsNumber 79 = .ok (.iconst 0, 1) := by decide +kernel
theorem d_Reader_beginsNumber_80 : decode b_Reader_beginsNumber 80 = .ok (.ireturn, 1) := by decide +kernel
theorem lk_Reader_97 : Cond.methodLink "TurtleWorld$Reader" 97 ⟨"TurtleWorld$Reader", "isDigit", "(I)Z"⟩ ∈ tw_T := tw_i4 44 (by decide +kernel) (by decide +kernel)
theorem hd_Reader_isDigit : y_Reader_isDigit.cls ≠ "java/lang/invoke/MethodHandle" ∧ y_Reader_isDigit.cls ≠ "java/lang/invoke/VarHandle" ∧ (parseMethodDescriptor y_Reader_isDigit.desc).map (fun d => d.parameters.length) = some 1 := by decide +kernel
theorem st_Reader_isDigit : Cond.static ⟨"TurtleWorld$Reader", "isDigit", "(I)Z"⟩ ∈ tw_T := tw_i4 45 (by decide +kernel) (by decide +kernel)
def m_Lexicon_arity (n : Nat) (g : Nat → Nat) (i : Nat → Int32) (a : Nat → Nat → Int32) (v1 : Int32) : Option (Int32) := if v1 < ((0 : Int32)) then some 0 else if ((86 : Int32)) ≤ v1 then some 0 else ck v1 86 (some (a 7 v1.toNatClampNeg))
set_option maxHeartbeats 4000000 in
set_option maxRecDepth 100000 in
theorem x_Lexicon_arity (l : Launch) (dC : Nat → ClassId) (dI : Nat → Nat → Nat) (cI : ClassId) (adK adV adA u o g : Nat → Nat) (sz : Nat) (n : Nat) {i : Nat → Int32} {a : Nat → Nat → Int32} {v1 : Int32} {r2 : Int32} (hm : m_Lexicon_arity n g i a v1 = some r2) : Met l y_Lexicon_arity w_Lexicon_arity ({ frames := 0, cells := 0, slots := 0, locals := 0 } : Room) (va_Pc [.ref ((u 2)), .int v1] (xEr dC dI cI adK adV adA u o g i a sz)) (va_Qi (xR r2) xT (xN sz)) 0 0 (xN sz) := by
  refine Met.ofW (cc := b_Lexicon_arity) (maxL := 2) (ret := (some .int)) (by decide) rfl ?_
  intro p e s m args below meth c s₁ B hml hv
  obtain ⟨rfl, hsz, hP, hK, hE⟩ := hv
  have hx := B.exec
  have hb := B.bytes
  have hr := B.returns
  have hts := atoms_spec (ws := w_Lexicon_arity) B.pre
  have htt : ∀ w ∈ tw_T, w.before _ s = true := fun w h => hts w (List.mem_cons_of_mem _ h)
  have hown : s.vm.findClass R_Lexicon = some m.cls := findClass_of_methodNamed B.named
  have hlocks := B.notSynchronized
  subst hsz
  generalize hAe : xN s.heap.size = A at hE ⊢
  have hA : ∀ q : Nat, s.heap.size ≤ q → A q := fun q h => by rw [← hAe]; exact Or.inr h
  have hS : va_S A s.heap s.heap [] := va_S.rf
  have hl := lv_entry ([.ref ((u 2)), .int v1]) (n := 2) (Nat.le_of_ble_eq_true rfl)
  rw [lg_entry_eq]
  generalize (lg_sl ([.ref ((u 2)), .int v1]) ++ List.replicate (2 - (lg_sl ([.ref ((u 2)), .int v1])).length) Slot.unset).toArray = ls at hl ⊢
  have hl : lv_has ls 2 [(0, .ref ((u 2))), (1, .int v1)] := hl
  rw [m_Lexicon_arity] at hm
  refine lv_iload_n hx hb d_Lexicon_arity_0 rfl (lv_at hl 1 rfl) ?_
  refine lv_if_lt (tgt := 19) hx hb d_Lexicon_arity_1 (by decide) (fun c_1 => ?_) (fun c_1 => ?_)
  · replace hm := if_t c_1 hm
    refine lv_iconst (v := 0) hx hb d_Lexicon_arity_19 (by decide) ?_
    have e3 := re1 hm
    exact W.iret hx hb hr (fun t9 ht hW => ⟨⟨_, (), rfl, e3.symm, trivial⟩, hS.F ht⟩) hS.2.2 d_Lexicon_arity_20
  · replace hm := if_f c_1 hm
    refine lv_iload_n hx hb d_Lexicon_arity_4 rfl (lv_at hl 1 rfl) ?_
    refine lv_bipush (v := 86) hx hb d_Lexicon_arity_5 (by decide) ?_
    refine lv_icmp_ge (tgt := 19) hx hb d_Lexicon_arity_7 (by decide) (fun c_2 => ?_) (fun c_2 => ?_)
    · replace hm := if_t c_2 hm
      refine lv_iconst (v := 0) hx hb d_Lexicon_arity_19 (by decide) ?_
      have e3 := re1 hm
      exact W.iret hx hb hr (fun t9 ht hW => ⟨⟨_, (), rfl, e3.symm, trivial⟩, hS.F ht⟩) hS.2.2 d_Lexicon_arity_20
    · replace hm := if_f c_2 hm
      refine lv_aload_n hx hb d_Lexicon_arity_10 rfl (lv_at hl 0 rfl) ?_
      refine va_get (D := (dC, dI)) (ci := 2) (v := .ref ((u 17))) (C := R_Lexicon) (T := F_Lexicon) (N := 7) hx hb htt iw_Lexicon hown hK hP 2 xo_2 rfl 2 (Nat.le_of_ble_eq_true rfl) (htt _ lk_Lexicon_18) (fun _ h9 => h9) xg_2_2 d_Lexicon_arity_11 ?_
      refine lv_iload_n hx hb d_Lexicon_arity_14 rfl (lv_at hl 1 rfl) ?_
      obtain ⟨h_3, hm⟩ := ck_some hm
      refine va_iald hx hb hK hP 19 0 twA_7 rfl h_3 d_Lexicon_arity_15 ?_
      refine lv_goto (tgt := 20) hx hb d_Lexicon_arity_16 (by decide) ?_
      have e3 := re1 hm
      exact W.iret hx hb hr (fun t9 ht hW => ⟨⟨_, (), rfl, e3.symm, trivial⟩, hS.F ht⟩) hS.2.2 d_Lexicon_arity_20

def m_Waiting_put (n : Nat) (g : Nat → Nat) (i : Nat → Int32) (a : Nat → Nat → Int32) (v1 : Int32) : Option ((Nat → Int32) × (Nat → Nat → Int32) × Int32) := if ((32000 : Int32)) ≤ ((i 43)) then some (i, a, (0 : Int32)) else ck ((i 43)) 32000 (ob1 (sv a 54 (i 43).toNatClampNeg v1 : Nat → Nat → Int32) (fun a_3 => ob1 ((i 43) + 1 : Int32) (fun x_4 => ob1 (upd i 43 x_4 : Nat → Int32) (fun i_5 => some (i_5, a_3, (0 : Int32))))))
set_option maxHeartbeats 4000000 in
set_option maxRecDepth 100000 in
theorem x_Waiting_put (l : Launch) (dC : Nat → ClassId) (dI : Nat → Nat → Nat) (cI : ClassId) (adK adV adA u o g : Nat → Nat) (sz : Nat) (n : Nat) {i : Nat → Int32} {a : Nat → Nat → Int32} {v1 : Int32} {i2 : Nat → Int32} {a2 : Nat → Nat → Int32} {r2 : Int32} (hm : m_Waiting_put n g i a v1 = some (i2, a2, r2)) : Met l y_Waiting_put w_Waiting_put ({ frames := 0, cells := 0, slots := 0, locals := 0 } : Room) (va_Pc [.ref ((u 9)), .int v1] (xE dC dI cI adK adV adA u o g i a sz)) (va_Qv xV (xB dC dI cI u o g i2 a2 (va_A (TW cI u o i a g) sz)) (va_A (TW cI u o i a g) sz)) 0 0 ((va_A (TW cI u o i a g) sz)) := by
  refine Met.ofW (cc := b_Waiting_put) (maxL := 2) (ret := none) (by decide) rfl ?_
  intro p e s m args below meth c s₁ B hml hv
  obtain ⟨rfl, hsz, hP, hK, hE, hD0⟩ := hv
  have hx := B.exec
  have hb := B.bytes
  have hr := B.returns
  have hts := atoms_spec (ws := w_Waiting_put) B.pre
  have htt : ∀ w ∈ tw_T, w.before _ s = true := fun w h => hts w (List.mem_cons_of_mem _ h)
  have hown : s.vm.findClass R_Waiting = some m.cls := findClass_of_methodNamed B.named
  have hlocks := B.notSynchronized
  subst hsz
  have hD := hD0.self (sz := s.heap.size)
  generalize hAe : (va_A (TW cI u o i a g) s.heap.size) = A at hD hE ⊢
  have hA : ∀ q : Nat, s.heap.size ≤ q → A q := fun q h => by rw [← hAe]; exact Or.inr h
  have hS : va_S A s.heap s.heap [] := va_S.rf
  have hl := lv_entry ([.ref ((u 9)), .int v1]) (n := 2) (Nat.le_of_ble_eq_true rfl)
  rw [lg_entry_eq]
  generalize (lg_sl ([.ref ((u 9)), .int v1]) ++ List.replicate (2 - (lg_sl ([.ref ((u 9)), .int v1])).length) Slot.unset).toArray = ls at hl ⊢
  have hl : lv_has ls 2 [(0, .ref ((u 9))), (1, .int v1)] := hl
  rw [m_Waiting_put] at hm
  refine lv_aload_n hx hb d_Waiting_put_0 rfl (lv_at hl 0 rfl) ?_
  refine va_get (D := (dC, dI)) (ci := 9) (v := .int (i 43)) (C := R_Waiting) (T := F_Waiting) (N := 11) hx hb htt iw_Waiting hown hK hP 9 xo_9 rfl 9 (Nat.le_of_ble_eq_true rfl) (htt _ lk_Waiting_40) (fun _ h9 => h9) xg_9_9 d_Waiting_put_1 ?_
  refine lv_sipush (v := 32000) hx hb d_Waiting_put_4 (by decide) ?_
  refine lv_icmp_ge (tgt := 30) hx hb d_Waiting_put_7 (by decide) (fun c_1 => ?_) (fun c_1 => ?_)
  · replace hm := if_t c_1 hm
    obtain ⟨e1i, e1a, e3⟩ := re3 hm
    obtain ⟨hP, hD⟩ := x_eq e1i e1a hP hD
    exact W.vret hx hb hr (fun t9 ht hW => ⟨⟨(), rfl, trivial, by rw [ht]; exact hP, hD⟩, hS.F ht⟩) hS.2.2 d_Waiting_put_30
  · replace hm := if_f c_1 hm
    refine lv_aload_n hx hb d_Waiting_put_10 rfl (lv_at hl 0 rfl) ?_
    refine va_get (D := (dC, dI)) (ci := 9) (v := .ref ((u 64))) (C := R_Waiting) (T := F_Waiting) (N := 11) hx hb htt iw_Waiting hown hK hP 9 xo_9 rfl 8 (Nat.le_of_ble_eq_true rfl) (htt _ lk_Waiting_33) (fun _ h9 => h9) xg_9_8 d_Waiting_put_11 ?_
    refine lv_aload_n hx hb d_Waiting_put_14 rfl (lv_at hl 0 rfl) ?_
    refine va_get (D := (dC, dI)) (ci := 9) (v := .int (i 43)) (C := R_Waiting) (T := F_Waiting) (N := 11) hx hb htt iw_Waiting hown hK hP 9 xo_9 rfl 9 (Nat.le_of_ble_eq_true rfl) (htt _ lk_Waiting_40) (fun _ h9 => h9) xg_9_9 d_Waiting_put_15 ?_
    refine lv_iload_n hx hb d_Waiting_put_18 rfl (lv_at hl 1 rfl) ?_
    obtain ⟨h_2, hm⟩ := ck_some hm
    refine va_iast hx hb hK hP hD hS 66 0 twA_54 rfl h_2 d_Waiting_put_19 (fun H locs hP hD hS => ?_)
    obtain ⟨a_3, ea_3⟩ : ∃ y9 : Nat → Nat → Int32, y9 = sv a 54 (i 43).toNatClampNeg v1 := ⟨_, rfl⟩
    replace hm := ob1_at ea_3 hm
    obtain ⟨hP, hD⟩ := xv_54 ea_3 hP hD
    refine lv_aload_n hx hb d_Waiting_put_20 rfl (lv_at hl 0 rfl) ?_
    refine lv_dup hx hb d_Waiting_put_21 rfl ?_
    refine va_get (D := (dC, dI)) (ci := 9) (v := .int (i 43)) (C := R_Waiting) (T := F_Waiting) (N := 11) hx hb htt iw_Waiting hown hK hP 9 xo_9 rfl 9 (Nat.le_of_ble_eq_true rfl) (htt _ lk_Waiting_40) (fun _ h9 => h9) xg_9_9 d_Waiting_put_22 ?_
    refine lv_iconst (v := 1) hx hb d_Waiting_put_25 (by decide) ?_
    refine lv_iadd hx hb d_Waiting_put_26 ?_
    refine lv_topi (fun x_4 ex_4 => ?_)
    replace hm := ob1_at ex_4 hm
    refine va_put (D := (dC, dI)) (ci := 9) (v := .int x_4) (ty := .int) (C := R_Waiting) (T := F_Waiting) (N := 11) hx hb htt iw_Waiting t_Waiting t_Waiting_ok n_Waiting hown hK hP hD hS 9 xo_9 rfl 9 (Nat.le_of_ble_eq_true rfl) (htt _ lk_Waiting_40) (fun _ h9 => h9) rfl (by decide +kernel) rfl rfl xl_9_9 d_Waiting_put_27 (fun H locs hP hD hS => ?_)
    obtain ⟨i_5, ei_5⟩ : ∃ y9 : Nat → Int32, y9 = upd i 43 x_4 := ⟨_, rfl⟩
    replace hm := ob1_at ei_5 hm
    obtain ⟨hP, hD⟩ := xw_43 ei_5 hP hD
    obtain ⟨e1i, e1a, e3⟩ := re3 hm
    obtain ⟨hP, hD⟩ := x_eq e1i e1a hP hD
    exact W.vret hx hb hr (fun t9 ht hW => ⟨⟨(), rfl, trivial, by rw [ht]; exact hP, hD⟩, hS.F ht⟩) hS.2.2 d_Waiting_put_30

def m_Machine_awaitTurn (n : Nat) (g : Nat → Nat) (i : Nat → Int32) (a : Nat → Nat → Int32)  : Option ((Nat → Int32) × (Nat → Nat → Int32) × Int32) := ob1 (upd i 46 0 : Nat → Int32) (fun i_1 => ob1 (upd i_1 44 3 : Nat → Int32) (fun i_2 => some (i_2, a, (-2147483584))))
set_option maxHeartbeats 4000000 in
set_option maxRecDepth 100000 in
theorem x_Machine_awaitTurn (l : Launch) (dC : Nat → ClassId) (dI : Nat → Nat → Nat) (cI : ClassId) (adK adV adA u o g : Nat → Nat) (sz : Nat) (n : Nat) {i : Nat → Int32} {a : Nat → Nat → Int32}  {i2 : Nat → Int32} {a2 : Nat → Nat → Int32} {r2 : Int32} (hm : m_Machine_awaitTurn n g i a = some (i2, a2, r2)) : Met l y_Machine_awaitTurn w_Machine_awaitTurn ({ frames := 0, cells := 0, slots := 0, locals := 0 } : Room) (va_Pc [.ref ((u 11))] (xE dC dI cI adK adV adA u o g i a sz)) (va_Qi (xR r2) (xB dC dI cI u o g i2 a2 (va_A (TW cI u o i a g) sz)) (va_A (TW cI u o i a g) sz)) 0 0 ((va_A (TW cI u o i a g) sz)) := by
  refine Met.ofW (cc := b_Machine_awaitTurn) (maxL := 1) (ret := (some .int)) (by decide) rfl ?_
  intro p e s m args below meth c s₁ B hml hv
  obtain ⟨rfl, hsz, hP, hK, hE, hD0⟩ := hv
  have hx := B.exec
  have hb := B.bytes
  have hr := B.returns
  have hts := atoms_spec (ws := w_Machine_awaitTurn) B.pre
  have htt : ∀ w ∈ tw_T, w.before _ s = true := fun w h => hts w (List.mem_cons_of_mem _ h)
  have hown : s.vm.findClass R_Machine = some m.cls := findClass_of_methodNamed B.named
  have hlocks := B.notSynchronized
  subst hsz
  have hD := hD0.self (sz := s.heap.size)
  generalize hAe : (va_A (TW cI u o i a g) s.heap.size) = A at hD hE ⊢
  have hA : ∀ q : Nat, s.heap.size ≤ q → A q := fun q h => by rw [← hAe]; exact Or.inr h
  have hS : va_S A s.heap s.heap [] := va_S.rf
  have hl := lv_entry ([.ref ((u 11))]) (n := 1) (Nat.le_of_ble_eq_true rfl)
  rw [lg_entry_eq]
  generalize (lg_sl ([.ref ((u 11))]) ++ List.replicate (1 - (lg_sl ([.ref ((u 11))])).length) Slot.unset).toArray = ls at hl ⊢
  have hl : lv_has ls 1 [(0, .ref ((u 11)))] := hl
  rw [m_Machine_awaitTurn] at hm
  refine lv_aload_n hx hb d_Machine_awaitTurn_0 rfl (lv_at hl 0 rfl) ?_
  refine lv_iconst (v := 0) hx hb d_Machine_awaitTurn_1 (by decide) ?_
  refine va_put (D := (dC, dI)) (ci := 11) (v := .int 0) (ty := .int) (C := R_Machine) (T := F_Machine) (N := 9) hx hb htt iw_Machine t_Machine t_Machine_ok n_Machine hown hK hP hD hS 11 xo_11 rfl 7 (Nat.le_of_ble_eq_true rfl) (htt _ lk_Machine_62) (fun _ h9 => h9) rfl (by decide +kernel) rfl rfl xl_11_7 d_Machine_awaitTurn_2 (fun H locs hP hD hS => ?_)
  obtain ⟨i_1, ei_1⟩ : ∃ y9 : Nat → Int32, y9 = upd i 46 0 := ⟨_, rfl⟩
  replace hm := ob1_at ei_1 hm
  obtain ⟨hP, hD⟩ := xw_46 ei_1 hP hD
  refine lv_aload_n hx hb d_Machine_awaitTurn_5 rfl (lv_at hl 0 rfl) ?_
  refine va_get (D := (dC, dI)) (ci := 11) (v := .ref ((u 9))) (C := R_Machine) (T := F_Machine) (N := 9) hx hb htt iw_Machine hown hK hP 11 xo_11 rfl 2 (Nat.le_of_ble_eq_true rfl) (htt _ lk_Machine_22) (fun _ h9 => h9) xg_11_2 d_Machine_awaitTurn_6 ?_
  refine lv_iconst (v := 3) hx hb d_Machine_awaitTurn_9 (by decide) ?_
  refine va_put (D := (dC, dI)) (ci := 9) (v := .int 3) (ty := .int) (C := R_Waiting) (T := F_Waiting) (N := 11) hx hb htt iw_Waiting t_Waiting t_Waiting_ok n_Waiting hown hK hP hD hS 9 xo_9 rfl 10 (Nat.le_of_ble_eq_true rfl) (htt _ lk_Machine_94) (fun _ h9 => h9) rfl (by decide +kernel) rfl rfl xl_9_10 d_Machine_awaitTurn_10 (fun H locs hP hD hS => ?_)
  obtain ⟨i_2, ei_2⟩ : ∃ y9 : Nat → Int32, y9 = upd i_1 44 3 := ⟨_, rfl⟩
  replace hm := ob1_at ei_2 hm
  obtain ⟨hP, hD⟩ := xw_44 ei_2 hP hD
  refine lv_ldc (v := (-2147483584)) hx hb hown (htt _ lk_Machine_110) d_Machine_awaitTurn_13 ?_
  obtain ⟨e1i, e1a, e3⟩ := re3 hm
  obtain ⟨hP, hD⟩ := x_eq e1i e1a hP hD
  exact W.iret hx hb hr (fun t9 ht hW => ⟨⟨_, (), rfl, e3.symm, by rw [ht]; exact hP, hD⟩, hS.F ht⟩) hS.2.2 d_Machine_awaitTurn_15

def m_Machine_changeLists (n : Nat) (g : Nat → Nat) (i : Nat → Int32) (a : Nat → Nat → Int32) (v1 : Int32) (v2 : Int32) : Option ((Nat → Int32) × (Nat → Nat → Int32) × Int32) := ck v1 150 (ob1 (a 38 v1.toNatClampNeg : Int32) (fun x_2 => ck v1 150 (ck v1 150 (ob1 (sv a 38 v1.toNatClampNeg (a 42 v1.toNatClampNeg) : Nat → Nat → Int32) (fun a_5 => ck v1 150 (ob1 (sv a_5 42 v1.toNatClampNeg x_2 : Nat → Nat → Int32) (fun a_7 => ck v1 150 (ob1 (sv a_7 37 v1.toNatClampNeg v2 : Nat → Nat → Int32) (fun a_9 => ck v1 150 (ob1 (sv a_9 39 v1.toNatClampNeg 0 : Nat → Nat → Int32) (fun a_11 => ob1 (upd i 46 0 : Nat → Int32) (fun i_12 => some (i_12, a_11, (-2147483584))))))))))))))
set_option maxHeartbeats 4000000 in
set_option maxRecDepth 100000 in
theorem x_Machine_changeLists (l : Launch) (dC : Nat → ClassId) (dI : Nat → Nat → Nat) (cI : ClassId) (adK adV adA u o g : Nat → Nat) (sz : Nat) (n : Nat) {i : Nat → Int32} {a : Nat → Nat → Int32} {v1 : Int32} {v2 : Int32} {i2 : Nat → Int32} {a2 : Nat → Nat → Int32} {r2 : Int32} (hm : m_Machine_changeLists n g i a v1 v2 = some (i2, a2, r2)) : Met l y_Machine_changeLists w_Machine_changeLists ({ frames := 0, cells := 0, slots := 0, locals := 0 } : Room) (va_Pc [.ref ((u 11)), .int v1, .int v2] (xE dC dI cI adK adV adA u o g i a sz)) (va_Qi (xR r2) (xB dC dI cI u o g i2 a2 (va_A (TW cI u o i a g) sz)) (va_A (TW cI u o i a g) sz)) 0 0 ((va_A (TW cI u o i a g) sz)) := by
  refine Met.ofW (cc := b_Machine_changeLists) (maxL := 4) (ret := (some .int)) (by decide) rfl ?_
  intro p e s m args below meth c s₁ B hml hv
  obtain ⟨rfl, hsz, hP, hK, hE, hD0⟩ := hv
  have hx := B.exec
  have hb := B.bytes
  have hr := B.returns
  have hts := atoms_spec (ws := w_Machine_changeLists) B.pre
  have htt : ∀ w ∈ tw_T, w.before _ s = true := fun w h => hts w (List.mem_cons_of_mem _ h)
  have hown : s.vm.findClass R_Machine = some m.cls := findClass_of_methodNamed B.named
  have hlocks := B.notSynchronized
  subst hsz
  have hD := hD0.self (sz := s.heap.size)
  generalize hAe : (va_A (TW cI u o i a g) s.heap.size) = A at hD hE ⊢
  have hA : ∀ q : Nat, s.heap.size ≤ q → A q := fun q h => by rw [← hAe]; exact Or.inr h
  have hS : va_S A s.heap s.heap [] := va_S.rf
  have hl := lv_entry ([.ref ((u 11)), .int v1, .int v2]) (n := 4) (Nat.le_of_ble_eq_true rfl)
  rw [lg_entry_eq]
  generalize (lg_sl ([.ref ((u 11)), .int v1, .int v2]) ++ List.replicate (4 - (lg_sl ([.ref ((u 11)), .int v1, .int v2])).length) Slot.unset).toArray = ls at hl ⊢
  have hl : lv_has ls 4 [(0, .ref ((u 11))), (1, .int v1), (2, .int v2)] := hl
  rw [m_Machine_changeLists] at hm
  refine lv_aload_n hx hb d_Machine_changeLists_0 rfl (lv_at hl 0 rfl) ?_
  refine va_get (D := (dC, dI)) (ci := 11) (v := .ref ((u 8))) (C := R_Machine) (T := F_Machine) (N := 9) hx hb htt iw_Machine hown hK hP 11 xo_11 rfl 1 (Nat.le_of_ble_eq_true rfl) (htt _ lk_Machine_18) (fun _ h9 => h9) xg_11_1 d_Machine_changeLists_1 ?_
  refine va_get (D := (dC, dI)) (ci := 8) (v := .ref ((u 48))) (C := R_Line) (T := F_Line) (N := 18) hx hb htt iw_Line hown hK hP 8 xo_8 rfl 9 (Nat.le_of_ble_eq_true rfl) (htt _ lk_Machine_161) (fun _ h9 => h9) xg_8_9 d_Machine_changeLists_4 ?_
  refine lv_iload_n hx hb d_Machine_changeLists_7 rfl (lv_at hl 1 rfl) ?_
  obtain ⟨h_1, hm⟩ := ck_some hm
  refine va_iald hx hb hK hP 50 0 twA_38 rfl h_1 d_Machine_changeLists_8 ?_
  refine lv_topi (fun x_2 ex_2 => ?_)
  replace hm := ob1_at ex_2 hm
  refine lv_istore_n (lv' := [(3, .int x_2), (0, .ref ((u 11))), (1, .int v1), (2, .int v2)]) hx hb d_Machine_changeLists_9 rfl hl (by decide) rfl (fun ls hl => ?_)
  refine lv_aload_n hx hb d_Machine_changeLists_10 rfl (lv_at hl 1 rfl) ?_
  refine va_get (D := (dC, dI)) (ci := 11) (v := .ref ((u 8))) (C := R_Machine) (T := F_Machine) (N := 9) hx hb htt iw_Machine hown hK hP 11 xo_11 rfl 1 (Nat.le_of_ble_eq_true rfl) (htt _ lk_Machine_18) (fun _ h9 => h9) xg_11_1 d_Machine_changeLists_11 ?_
  refine va_get (D := (dC, dI)) (ci := 8) (v := .ref ((u 48))) (C := R_Line) (T := F_Line) (N := 18) hx hb htt iw_Line hown hK hP 8 xo_8 rfl 9 (Nat.le_of_ble_eq_true rfl) (htt _ lk_Machine_161) (fun _ h9 => h9) xg_8_9 d_Machine_changeLists_14 ?_
  refine lv_iload_n hx hb d_Machine_changeLists_17 rfl (lv_at hl 2 rfl) ?_
  refine lv_aload_n hx hb d_Machine_changeLists_18 rfl (lv_at hl 1 rfl) ?_
  refine va_get (D := (dC, dI)) (ci := 11) (v := .ref ((u 8))) (C := R_Machine) (T := F_Machine) (N := 9) hx hb htt iw_Machine hown hK hP 11 xo_11 rfl 1 (Nat.le_of_ble_eq_true rfl) (htt _ lk_Machine_18) (fun _ h9 => h9) xg_11_1 d_Machine_changeLists_19 ?_
  refine va_get (D := (dC, dI)) (ci := 8) (v := .ref ((u 52))) (C := R_Line) (T := F_Line) (N := 18) hx hb htt iw_Line hown hK hP 8 xo_8 rfl 13 (Nat.le_of_ble_eq_true rfl) (htt _ lk_Machine_267) (fun _ h9 => h9) xg_8_13 d_Machine_changeLists_22 ?_
  refine lv_iload_n hx hb d_Machine_changeLists_25 rfl (lv_at hl 2 rfl) ?_
  obtain ⟨h_3, hm⟩ := ck_some hm
  refine va_iald hx hb hK hP 54 0 twA_42 rfl h_3 d_Machine_changeLists_26 ?_
  obtain ⟨h_4, hm⟩ := ck_some hm
  refine va_iast hx hb hK hP hD hS 50 0 twA_38 rfl h_4 d_Machine_changeLists_27 (fun H locs hP hD hS => ?_)
  obtain ⟨a_5, ea_5⟩ : ∃ y9 : Nat → Nat → Int32, y9 = sv a 38 v1.toNatClampNeg (a 42 v1.toNatClampNeg) := ⟨_, rfl⟩
  replace hm := ob1_at ea_5 hm
  obtain ⟨hP, hD⟩ := xv_38 ea_5 hP hD
  refine lv_aload_n hx hb d_Machine_changeLists_28 rfl (lv_at hl 1 rfl) ?_
  refine va_get (D := (dC, dI)) (ci := 11) (v := .ref ((u 8))) (C := R_Machine) (T := F_Machine) (N := 9) hx hb htt iw_Machine hown hK hP 11 xo_11 rfl 1 (Nat.le_of_ble_eq_true rfl) (htt _ lk_Machine_18) (fun _ h9 => h9) xg_11_1 d_Machine_changeLists_29 ?_
  refine va_get (D := (dC, dI)) (ci := 8) (v := .ref ((u 52))) (C := R_Line) (T := F_Line) (N := 18) hx hb htt iw_Line hown hK hP 8 xo_8 rfl 13 (Nat.le_of_ble_eq_true rfl) (htt _ lk_Machine_267) (fun _ h9 => h9) xg_8_13 d_Machine_changeLists_32 ?_
  refine lv_iload_n hx hb d_Machine_changeLists_35 rfl (lv_at hl 2 rfl) ?_
  refine lv_iload_n hx hb d_Machine_changeLists_36 rfl (lv_at hl 0 rfl) ?_
  obtain ⟨h_6, hm⟩ := ck_some hm
  refine va_iast hx hb hK hP hD hS 54 0 twA_42 rfl h_6 d_Machine_changeLists_37 (fun H locs hP hD hS => ?_)
  obtain ⟨a_7, ea_7⟩ : ∃ y9 : Nat → Nat → Int32, y9 = sv a_5 42 v1.toNatClampNeg x_2 := ⟨_, rfl⟩
  replace hm := ob1_at ea_7 hm
  obtain ⟨hP, hD⟩ := xv_42 ea_7 hP hD
  refine lv_aload_n hx hb d_Machine_changeLists_38 rfl (lv_at hl 1 rfl) ?_
  refine va_get (D := (dC, dI)) (ci := 11) (v := .ref ((u 8))) (C := R_Machine) (T := F_Machine) (N := 9) hx hb htt iw_Machine hown hK hP 11 xo_11 rfl 1 (Nat.le_of_ble_eq_true rfl) (htt _ lk_Machine_18) (fun _ h9 => h9) xg_11_1 d_Machine_changeLists_39 ?_
  refine va_get (D := (dC, dI)) (ci := 8) (v := .ref ((u 47))) (C := R_Line) (T := F_Line) (N := 18) hx hb htt iw_Line hown hK hP 8 xo_8 rfl 8 (Nat.le_of_ble_eq_true rfl) (htt _ lk_Machine_133) (fun _ h9 => h9) xg_8_8 d_Machine_changeLists_42 ?_
  refine lv_iload_n hx hb d_Machine_changeLists_45 rfl (lv_at hl 2 rfl) ?_
  refine lv_iload_n hx hb d_Machine_changeLists_46 rfl (lv_at hl 3 rfl) ?_
  obtain ⟨h_8, hm⟩ := ck_some hm
  refine va_iast hx hb hK hP hD hS 49 0 twA_37 rfl h_8 d_Machine_changeLists_47 (fun H locs hP hD hS => ?_)
  obtain ⟨a_9, ea_9⟩ : ∃ y9 : Nat → Nat → Int32, y9 = sv a_7 37 v1.toNatClampNeg v2 := ⟨_, rfl⟩
  replace hm := ob1_at ea_9 hm
  obtain ⟨hP, hD⟩ := xv_37 ea_9 hP hD
  refine lv_aload_n hx hb d_Machine_changeLists_48 rfl (lv_at hl 1 rfl) ?_
  refine va_get (D := (dC, dI)) (ci := 11) (v := .ref ((u 8))) (C := R_Machine) (T := F_Machine) (N := 9) hx hb htt iw_Machine hown hK hP 11 xo_11 rfl 1 (Nat.le_of_ble_eq_true rfl) (htt _ lk_Machine_18) (fun _ h9 => h9) xg_11_1 d_Machine_changeLists_49 ?_
  refine va_get (D := (dC, dI)) (ci := 8) (v := .ref ((u 49))) (C := R_Line) (T := F_Line) (N := 18) hx hb htt iw_Line hown hK hP 8 xo_8 rfl 10 (Nat.le_of_ble_eq_true rfl) (htt _ lk_Machine_164) (fun _ h9 => h9) xg_8_10 d_Machine_changeLists_52 ?_
  refine lv_iload_n hx hb d_Machine_changeLists_55 rfl (lv_at hl 2 rfl) ?_
  refine lv_iconst (v := 0) hx hb d_Machine_changeLists_56 (by decide) ?_
  obtain ⟨h_10, hm⟩ := ck_some hm
  refine va_iast hx hb hK hP hD hS 51 0 twA_39 rfl h_10 d_Machine_changeLists_57 (fun H locs hP hD hS => ?_)
  obtain ⟨a_11, ea_11⟩ : ∃ y9 : Nat → Nat → Int32, y9 = sv a_9 39 v1.toNatClampNeg 0 := ⟨_, rfl⟩
  replace hm := ob1_at ea_11 hm
  obtain ⟨hP, hD⟩ := xv_39 ea_11 hP hD
  refine lv_aload_n hx hb d_Machine_changeLists_58 rfl (lv_at hl 1 rfl) ?_
  refine lv_iconst (v := 0) hx hb d_Machine_changeLists_59 (by decide) ?_
  refine va_put (D := (dC, dI)) (ci := 11) (v := .int 0) (ty := .int) (C := R_Machine) (T := F_Machine) (N := 9) hx hb htt iw_Machine t_Machine t_Machine_ok n_Machine hown hK hP hD hS 11 xo_11 rfl 7 (Nat.le_of_ble_eq_true rfl) (htt _ lk_Machine_62) (fun _ h9 => h9) rfl (by decide +kernel) rfl rfl xl_11_7 d_Machine_changeLists_60 (fun H locs hP hD hS => ?_)
  obtain ⟨i_12, ei_12⟩ : ∃ y9 : Nat → Int32, y9 = upd i 46 0 := ⟨_, rfl⟩
  replace hm := ob1_at ei_12 hm
  obtain ⟨hP, hD⟩ := xw_46 ei_12 hP hD
  refine lv_ldc (v := (-2147483584)) hx hb hown (htt _ lk_Machine_110) d_Machine_changeLists_63 ?_
  obtain ⟨e1i, e1a, e3⟩ := re3 hm
  obtain ⟨hP, hD⟩ := x_eq e1i e1a hP hD
  exact W.iret hx hb hr (fun t9 ht hW => ⟨⟨_, (), rfl, e3.symm, by rw [ht]; exact hP, hD⟩, hS.F ht⟩) hS.2.2 d_Machine_changeLists_65

def m_World_fault (n : Nat) (g : Nat → Nat) (i : Nat → Int32) (a : Nat → Nat → Int32) (v1 : Int32) : Option (Int32) := if ((i 26)) = ((0 : Int32)) then some ((-1)) else if v1 = ((0 : Int32)) then some (i 25) else if v1 = ((1 : Int32)) then some (i 26) else some ((-1))
set_option maxHeartbeats 4000000 in
set_option maxRecDepth 100000 in
theorem x_World_fault (l : Launch) (dC : Nat → ClassId) (dI : Nat → Nat → Nat) (cI : ClassId) (adK adV adA u o g : Nat → Nat) (sz : Nat) (n : Nat) {i : Nat → Int32} {a : Nat → Nat → Int32} {v1 : Int32} {r2 : Int32} (hm : m_World_fault n g i a v1 = some r2) : Met l y_World_fault w_World_fault ({ frames := 0, cells := 0, slots := 0, locals := 0 } : Room) (va_Pc [.ref ((u 0)), .int v1] (xEr dC dI cI adK adV adA u o g i a sz)) (va_Qi (xR r2) xT (xN sz)) 0 0 (xN sz) := by
  refine Met.ofW (cc := b_World_fault) (maxL := 2) (ret := (some .int)) (by decide) rfl ?_
  intro p e s m args below meth c s₁ B hml hv
  obtain ⟨rfl, hsz, hP, hK, hE⟩ := hv
  have hx := B.exec
  have hb := B.bytes
  have hr := B.returns
  have hts := atoms_spec (ws := w_World_fault) B.pre
  have htt : ∀ w ∈ tw_T, w.before _ s = true := fun w h => hts w (List.mem_cons_of_mem _ h)
  have hown : s.vm.findClass R_World = some m.cls := findClass_of_methodNamed B.named
  have hlocks := B.notSynchronized
  subst hsz
  generalize hAe : xN s.heap.size = A at hE ⊢
  have hA : ∀ q : Nat, s.heap.size ≤ q → A q := fun q h => by rw [← hAe]; exact Or.inr h
  have hS : va_S A s.heap s.heap [] := va_S.rf
  have hl := lv_entry ([.ref ((u 0)), .int v1]) (n := 2) (Nat.le_of_ble_eq_true rfl)
  rw [lg_entry_eq]
  generalize (lg_sl ([.ref ((u 0)), .int v1]) ++ List.replicate (2 - (lg_sl ([.ref ((u 0)), .int v1])).length) Slot.unset).toArray = ls at hl ⊢
  have hl : lv_has ls 2 [(0, .ref ((u 0))), (1, .int v1)] := hl
  rw [m_World_fault] at hm
  refine lv_aload_n hx hb d_World_fault_0 rfl (lv_at hl 0 rfl) ?_
  refine va_get (D := (dC, dI)) (ci := 0) (v := .ref ((u 7))) (C := R_World) (T := F_World) (N := 13) hx hb htt iw_World hown hK hP 0 xo_0 rfl 5 (Nat.le_of_ble_eq_true rfl) (htt _ lk_World_56) (fun _ h9 => h9) xg_0_5 d_World_fault_1 ?_
  refine va_get (D := (dC, dI)) (ci := 7) (v := .int (i 26)) (C := R_Reader) (T := F_Reader) (N := 19) hx hb htt iw_Reader hown hK hP 7 xo_7 rfl 5 (Nat.le_of_ble_eq_true rfl) (htt _ lk_World_108) (fun _ h9 => h9) xg_7_5 d_World_fault_4 ?_
  refine lv_if_ne (tgt := 12) hx hb d_World_fault_7 (by decide) (fun c_1 => ?_) (fun c_1 => ?_)
  · replace hm := if_f c_1 hm
    refine lv_iload_n hx hb d_World_fault_12 rfl (lv_at hl 1 rfl) ?_
    refine lv_if_ne (tgt := 24) hx hb d_World_fault_13 (by decide) (fun c_2 => ?_) (fun c_2 => ?_)
    · replace hm := if_f c_2 hm
      refine lv_iload_n hx hb d_World_fault_24 rfl (lv_at hl 1 rfl) ?_
      refine lv_iconst (v := 1) hx hb d_World_fault_25 (by decide) ?_
      refine lv_icmp_ne (tgt := 39) hx hb d_World_fault_26 (by decide) (fun c_3 => ?_) (fun c_3 => ?_)
      · replace hm := if_f c_3 hm
        refine lv_iconst (v := -1) hx hb d_World_fault_39 (by decide) ?_
        have e3 := re1 hm
        exact W.iret hx hb hr (fun t9 ht hW => ⟨⟨_, (), rfl, e3.symm, trivial⟩, hS.F ht⟩) hS.2.2 d_World_fault_40
      · replace hm := if_t c_3 hm
        refine lv_aload_n hx hb d_World_fault_29 rfl (lv_at hl 0 rfl) ?_
        refine va_get (D := (dC, dI)) (ci := 0) (v := .ref ((u 7))) (C := R_World) (T := F_World) (N := 13) hx hb htt iw_World hown hK hP 0 xo_0 rfl 5 (Nat.le_of_ble_eq_true rfl) (htt _ lk_World_56) (fun _ h9 => h9) xg_0_5 d_World_fault_30 ?_
        refine va_get (D := (dC, dI)) (ci := 7) (v := .int (i 26)) (C := R_Reader) (T := F_Reader) (N := 19) hx hb htt iw_Reader hown hK hP 7 xo_7 rfl 5 (Nat.le_of_ble_eq_true rfl) (htt _ lk_World_108) (fun _ h9 => h9) xg_7_5 d_World_fault_33 ?_
        refine lv_goto (tgt := 40) hx hb d_World_fault_36 (by decide) ?_
        have e3 := re1 hm
        exact W.iret hx hb hr (fun t9 ht hW => ⟨⟨_, (), rfl, e3.symm, trivial⟩, hS.F ht⟩) hS.2.2 d_World_fault_40
    · replace hm := if_t c_2 hm
      refine lv_aload_n hx hb d_World_fault_16 rfl (lv_at hl 0 rfl) ?_
      refine va_get (D := (dC, dI)) (ci := 0) (v := .ref ((u 7))) (C := R_World) (T := F_World) (N := 13) hx hb htt iw_World hown hK hP 0 xo_0 rfl 5 (Nat.le_of_ble_eq_true rfl) (htt _ lk_World_56) (fun _ h9 => h9) xg_0_5 d_World_fault_17 ?_
      refine va_get (D := (dC, dI)) (ci := 7) (v := .int (i 25)) (C := R_Reader) (T := F_Reader) (N := 19) hx hb htt iw_Reader hown hK hP 7 xo_7 rfl 4 (Nat.le_of_ble_eq_true rfl) (htt _ lk_World_135) (fun _ h9 => h9) xg_7_4 d_World_fault_20 ?_
      have e3 := re1 hm
      exact W.iret hx hb hr (fun t9 ht hW => ⟨⟨_, (), rfl, e3.symm, trivial⟩, hS.F ht⟩) hS.2.2 d_World_fault_23
  · replace hm := if_t c_1 hm
    refine lv_iconst (v := -1) hx hb d_World_fault_10 (by decide) ?_
    have e3 := re1 hm
    exact W.iret hx hb hr (fun t9 ht hW => ⟨⟨_, (), rfl, e3.symm, trivial⟩, hS.F ht⟩) hS.2.2 d_World_fault_11

def m_Waiting_release (n : Nat) (g : Nat → Nat) (i : Nat → Int32) (a : Nat → Nat → Int32) (v1 : Int32) : Option ((Nat → Int32) × (Nat → Nat → Int32) × Int32) := ob0 (m_Math_max n ((i 43) - v1) (0 : Int32)) (fun r_2 => ob1 (upd i 43 r_2 : Nat → Int32) (fun i_3 => some (i_3, a, (0 : Int32))))
set_option maxHeartbeats 4000000 in
set_option maxRecDepth 100000 in
theorem x_Waiting_release (l : Launch) (dC : Nat → ClassId) (dI : Nat → Nat → Nat) (cI : ClassId) (adK adV adA u o g : Nat → Nat) (sz : Nat) (n : Nat) {i : Nat → Int32} {a : Nat → Nat → Int32} {v1 : Int32} {i2 : Nat → Int32} {a2 : Nat → Nat → Int32} {r2 : Int32} (hm : m_Waiting_release n g i a v1 = some (i2, a2, r2)) : Met l y_Waiting_release w_Waiting_release ({ frames := 1, cells := 0, slots := 0, locals := 21 } : Room) (va_Pc [.ref ((u 9)), .int v1] (xE dC dI cI adK adV adA u o g i a sz)) (va_Qv xV (xB dC dI cI u o g i2 a2 (va_A (TW cI u o i a g) sz)) (va_A (TW cI u o i a g) sz)) 0 0 ((va_A (TW cI u o i a g) sz)) := by
  refine Met.ofW (cc := b_Waiting_release) (maxL := 2) (ret := none) (by decide) rfl ?_
  intro p e s m args below meth c s₁ B hml hv
  obtain ⟨rfl, hsz, hP, hK, hE, hD0⟩ := hv
  have hx := B.exec
  have hb := B.bytes
  have hr := B.returns
  have hts := atoms_spec (ws := w_Waiting_release) B.pre
  have htt : ∀ w ∈ tw_T, w.before _ s = true := fun w h => hts w (List.mem_cons_of_mem _ h)
  have hown : s.vm.findClass R_Waiting = some m.cls := findClass_of_methodNamed B.named
  have hlocks := B.notSynchronized
  subst hsz
  have hD := hD0.self (sz := s.heap.size)
  generalize hAe : (va_A (TW cI u o i a g) s.heap.size) = A at hD hE ⊢
  have hA : ∀ q : Nat, s.heap.size ≤ q → A q := fun q h => by rw [← hAe]; exact Or.inr h
  have hS : va_S A s.heap s.heap [] := va_S.rf
  have hl := lv_entry ([.ref ((u 9)), .int v1]) (n := 2) (Nat.le_of_ble_eq_true rfl)
  rw [lg_entry_eq]
  generalize (lg_sl ([.ref ((u 9)), .int v1]) ++ List.replicate (2 - (lg_sl ([.ref ((u 9)), .int v1])).length) Slot.unset).toArray = ls at hl ⊢
  have hl : lv_has ls 2 [(0, .ref ((u 9))), (1, .int v1)] := hl
  rw [m_Waiting_release] at hm
  refine lv_aload_n hx hb d_Waiting_release_0 rfl (lv_at hl 0 rfl) ?_
  refine lv_aload_n hx hb d_Waiting_release_1 rfl (lv_at hl 0 rfl) ?_
  refine va_get (D := (dC, dI)) (ci := 9) (v := .int (i 43)) (C := R_Waiting) (T := F_Waiting) (N := 11) hx hb htt iw_Waiting hown hK hP 9 xo_9 rfl 9 (Nat.le_of_ble_eq_true rfl) (htt _ lk_Waiting_40) (fun _ h9 => h9) xg_9_9 d_Waiting_release_2 ?_
  refine lv_iload_n hx hb d_Waiting_release_5 rfl (lv_at hl 1 rfl) ?_
  refine lv_isub hx hb d_Waiting_release_6 ?_
  refine lv_iconst (v := 0) hx hb d_Waiting_release_7 (by decide) ?_
  obtain ⟨r_2, h_1, hm⟩ := ob0_some hm
  have hFc := x_free0 hS hA
  refine va_calli (va_runS (As := [.int ((i 43) - v1), .int 0]) (rest := [.ref ((u 9))]) ⟨hx, hb, hml, hown, hts⟩ (x_Math_max l s.heap.size n h_1) (va_cwS 2 hts (tw_GS tw_cons cw_Math_max lk_Waiting_56 st_Math_max ini_Math) rfl rfl rfl hd_Math_max ⟨Nat.le_of_ble_eq_true rfl, Nat.le_of_ble_eq_true rfl⟩) xpS0 rfl rfl hl.1 rfl (lv_room (Nat.le_of_ble_eq_true rfl)) d_Waiting_release_8 ⟨Nat.le_of_ble_eq_true rfl, Nat.le_of_ble_eq_true rfl⟩) hS (fun q _ h => hFc q h) hFc (fun r9 u9 t9 H locs ht hvm e9 hB hz1 hk1 hS => ?_)
  have e9 : r_2 = r9 := e9
  subst e9
  replace hP := x_keep hP hk1
  clear hFc hk1 hz1 hvm hB ht
  refine va_put (D := (dC, dI)) (ci := 9) (v := .int r_2) (ty := .int) (C := R_Waiting) (T := F_Waiting) (N := 11) hx hb htt iw_Waiting t_Waiting t_Waiting_ok n_Waiting hown hK hP hD hS 9 xo_9 rfl 9 (Nat.le_of_ble_eq_true rfl) (htt _ lk_Waiting_40) (fun _ h9 => h9) rfl (by decide +kernel) rfl rfl xl_9_9 d_Waiting_release_11 (fun H locs hP hD hS => ?_)
  obtain ⟨i_3, ei_3⟩ : ∃ y9 : Nat → Int32, y9 = upd i 43 r_2 := ⟨_, rfl⟩
  replace hm := ob1_at ei_3 hm
  obtain ⟨hP, hD⟩ := xw_43 ei_3 hP hD
  obtain ⟨e1i, e1a, e3⟩ := re3 hm
  obtain ⟨hP, hD⟩ := x_eq e1i e1a hP hD
  exact W.vret hx hb hr (fun t9 ht hW => ⟨⟨(), rfl, trivial, by rw [ht]; exact hP, hD⟩, hS.F ht⟩) hS.2.2 d_Waiting_release_14

def m_Line_note (n : Nat) (g : Nat → Nat) (i : Nat → Int32) (a : Nat → Nat → Int32) (v1 : Int32) (v2 : Int32) : Option ((Nat → Int32) × (Nat → Nat → Int32) × Int32) := if ((i 40)) ≤ ((0 : Int32)) then some (i, a, (0 : Int32)) else ck (((i 40) - 1)) 150 (ob1 (sv a 43 ((i 40) - 1).toNatClampNeg v1 : Nat → Nat → Int32) (fun a_3 => ck (((i 40) - 1)) 150 (ob1 (sv a_3 42 ((i 40) - 1).toNatClampNeg v2 : Nat → Nat → Int32) (fun a_5 => some (i, a_5, (0 : Int32))))))
set_option maxHeartbeats 4000000 in
set_option maxRecDepth 100000 in
theorem x_Line_note (l : Launch) (dC : Nat → ClassId) (dI : Nat → Nat → Nat) (cI : ClassId) (adK adV adA u o g : Nat → Nat) (sz : Nat) (n : Nat) {i : Nat → Int32} {a : Nat → Nat → Int32} {v1 : Int32} {v2 : Int32} {i2 : Nat → Int32} {a2 : Nat → Nat → Int32} {r2 : Int32} (hm : m_Line_note n g i a v1 v2 = some (i2, a2, r2)) : Met l y_Line_note w_Line_note ({ frames := 0, cells := 0, slots := 0, locals := 0 } : Room) (va_Pc [.ref ((u 8)), .int v1, .int v2] (xE dC dI cI adK adV adA u o g i a sz)) (va_Qv xV (xB dC dI cI u o g i2 a2 (va_A (TW cI u o i a g) sz)) (va_A (TW cI u o i a g) sz)) 0 0 ((va_A (TW cI u o i a g) sz)) := by
  refine Met.ofW (cc := b_Line_note) (maxL := 3) (ret := none) (by decide) rfl ?_
  intro p e s m args below meth c s₁ B hml hv
  obtain ⟨rfl, hsz, hP, hK, hE, hD0⟩ := hv
  have hx := B.exec
  have hb := B.bytes
  have hr := B.returns
  have hts := atoms_spec (ws := w_Line_note) B.pre
  have htt : ∀ w ∈ tw_T, w.before _ s = true := fun w h => hts w (List.mem_cons_of_mem _ h)
  have hown : s.vm.findClass R_Line = some m.cls := findClass_of_methodNamed B.named
  have hlocks := B.notSynchronized
  subst hsz
  have hD := hD0.self (sz := s.heap.size)
  generalize hAe : (va_A (TW cI u o i a g) s.heap.size) = A at hD hE ⊢
  have hA : ∀ q : Nat, s.heap.size ≤ q → A q := fun q h => by rw [← hAe]; exact Or.inr h
  have hS : va_S A s.heap s.heap [] := va_S.rf
  have hl := lv_entry ([.ref ((u 8)), .int v1, .int v2]) (n := 3) (Nat.le_of_ble_eq_true rfl)
  rw [lg_entry_eq]
  generalize (lg_sl ([.ref ((u 8)), .int v1, .int v2]) ++ List.replicate (3 - (lg_sl ([.ref ((u 8)), .int v1, .int v2])).length) Slot.unset).toArray = ls at hl ⊢
  have hl : lv_has ls 3 [(0, .ref ((u 8))), (1, .int v1), (2, .int v2)] := hl
  rw [m_Line_note] at hm
  refine lv_aload_n hx hb d_Line_note_0 rfl (lv_at hl 0 rfl) ?_
  refine va_get (D := (dC, dI)) (ci := 8) (v := .int (i 40)) (C := R_Line) (T := F_Line) (N := 18) hx hb htt iw_Line hown hK hP 8 xo_8 rfl 6 (Nat.le_of_ble_eq_true rfl) (htt _ lk_Line_62) (fun _ h9 => h9) xg_8_6 d_Line_note_1 ?_
  refine lv_if_le (tgt := 31) hx hb d_Line_note_4 (by decide) (fun c_1 => ?_) (fun c_1 => ?_)
  · replace hm := if_t c_1 hm
    obtain ⟨e1i, e1a, e3⟩ := re3 hm
    obtain ⟨hP, hD⟩ := x_eq e1i e1a hP hD
    exact W.vret hx hb hr (fun t9 ht hW => ⟨⟨(), rfl, trivial, by rw [ht]; exact hP, hD⟩, hS.F ht⟩) hS.2.2 d_Line_note_31
  · replace hm := if_f c_1 hm
    refine lv_aload_n hx hb d_Line_note_7 rfl (lv_at hl 0 rfl) ?_
    refine va_get (D := (dC, dI)) (ci := 8) (v := .ref ((u 53))) (C := R_Line) (T := F_Line) (N := 18) hx hb htt iw_Line hown hK hP 8 xo_8 rfl 14 (Nat.le_of_ble_eq_true rfl) (htt _ lk_Line_30) (fun _ h9 => h9) xg_8_14 d_Line_note_8 ?_
    refine lv_aload_n hx hb d_Line_note_11 rfl (lv_at hl 0 rfl) ?_
    refine va_get (D := (dC, dI)) (ci := 8) (v := .int (i 40)) (C := R_Line) (T := F_Line) (N := 18) hx hb htt iw_Line hown hK hP 8 xo_8 rfl 6 (Nat.le_of_ble_eq_true rfl) (htt _ lk_Line_62) (fun _ h9 => h9) xg_8_6 d_Line_note_12 ?_
    refine lv_iconst (v := 1) hx hb d_Line_note_15 (by decide) ?_
    refine lv_isub hx hb d_Line_note_16 ?_
    refine lv_iload_n hx hb d_Line_note_17 rfl (lv_at hl 1 rfl) ?_
    obtain ⟨h_2, hm⟩ := ck_some hm
    refine va_iast hx hb hK hP hD hS 55 0 twA_43 rfl h_2 d_Line_note_18 (fun H locs hP hD hS => ?_)
    obtain ⟨a_3, ea_3⟩ : ∃ y9 : Nat → Nat → Int32, y9 = sv a 43 ((i 40) - 1).toNatClampNeg v1 := ⟨_, rfl⟩
    replace hm := ob1_at ea_3 hm
    obtain ⟨hP, hD⟩ := xv_43 ea_3 hP hD
    refine lv_aload_n hx hb d_Line_note_19 rfl (lv_at hl 0 rfl) ?_
    refine va_get (D := (dC, dI)) (ci := 8) (v := .ref ((u 52))) (C := R_Line) (T := F_Line) (N := 18) hx hb htt iw_Line hown hK hP 8 xo_8 rfl 13 (Nat.le_of_ble_eq_true rfl) (htt _ lk_Line_27) (fun _ h9 => h9) xg_8_13 d_Line_note_20 ?_
    refine lv_aload_n hx hb d_Line_note_23 rfl (lv_at hl 0 rfl) ?_
    refine va_get (D := (dC, dI)) (ci := 8) (v := .int (i 40)) (C := R_Line) (T := F_Line) (N := 18) hx hb htt iw_Line hown hK hP 8 xo_8 rfl 6 (Nat.le_of_ble_eq_true rfl) (htt _ lk_Line_62) (fun _ h9 => h9) xg_8_6 d_Line_note_24 ?_
    refine lv_iconst (v := 1) hx hb d_Line_note_27 (by decide) ?_
    refine lv_isub hx hb d_Line_note_28 ?_
    refine lv_iload_n hx hb d_Line_note_29 rfl (lv_at hl 2 rfl) ?_
    obtain ⟨h_4, hm⟩ := ck_some hm
    refine va_iast hx hb hK hP hD hS 54 0 twA_42 rfl h_4 d_Line_note_30 (fun H locs hP hD hS => ?_)
    obtain ⟨a_5, ea_5⟩ : ∃ y9 : Nat → Nat → Int32, y9 = sv a_3 42 ((i 40) - 1).toNatClampNeg v2 := ⟨_, rfl⟩
    replace hm := ob1_at ea_5 hm
    obtain ⟨hP, hD⟩ := xv_42 ea_5 hP hD
    obtain ⟨e1i, e1a, e3⟩ := re3 hm
    obtain ⟨hP, hD⟩ := x_eq e1i e1a hP hD
    exact W.vret hx hb hr (fun t9 ht hW => ⟨⟨(), rfl, trivial, by rw [ht]; exact hP, hD⟩, hS.F ht⟩) hS.2.2 d_Line_note_31

def m_Waiting_input (n : Nat) (g : Nat → Nat) (i : Nat → Int32) (a : Nat → Nat → Int32) (v1 : Int32) : Option (Int32) := ob1 ((i 43) + v1 : Int32) (fun x_1 => if x_1 < ((0 : Int32)) then some ((-2147483648)) else if ((32000 : Int32)) ≤ x_1 then some ((-2147483648)) else ck x_1 32000 (some (a 54 x_1.toNatClampNeg)))
set_option maxHeartbeats 4000000 in
set_option maxRecDepth 100000 in
theorem x_Waiting_input (l : Launch) (dC : Nat → ClassId) (dI : Nat → Nat → Nat) (cI : ClassId) (adK adV adA u o g : Nat → Nat) (sz : Nat) (n : Nat) {i : Nat → Int32} {a : Nat → Nat → Int32} {v1 : Int32} {r2 : Int32} (hm : m_Waiting_input n g i a v1 = some r2) : Met l y_Waiting_input w_Waiting_input ({ frames := 0, cells := 0, slots := 0, locals := 0 } : Room) (va_Pc [.ref ((u 9)), .int v1] (xEr dC dI cI adK adV adA u o g i a sz)) (va_Qi (xR r2) xT (xN sz)) 0 0 (xN sz) := by
  refine Met.ofW (cc := b_Waiting_input) (maxL := 3) (ret := (some .int)) (by decide) rfl ?_
  intro p e s m args below meth c s₁ B hml hv
  obtain ⟨rfl, hsz, hP, hK, hE⟩ := hv
  have hx := B.exec
  have hb := B.bytes
  have hr := B.returns
  have hts := atoms_spec (ws := w_Waiting_input) B.pre
  have htt : ∀ w ∈ tw_T, w.before _ s = true := fun w h => hts w (List.mem_cons_of_mem _ h)
  have hown : s.vm.findClass R_Waiting = some m.cls := findClass_of_methodNamed B.named
  have hlocks := B.notSynchronized
  subst hsz
  generalize hAe : xN s.heap.size = A at hE ⊢
  have hA : ∀ q : Nat, s.heap.size ≤ q → A q := fun q h => by rw [← hAe]; exact Or.inr h
  have hS : va_S A s.heap s.heap [] := va_S.rf
  have hl := lv_entry ([.ref ((u 9)), .int v1]) (n := 3) (Nat.le_of_ble_eq_true rfl)
  rw [lg_entry_eq]
  generalize (lg_sl ([.ref ((u 9)), .int v1]) ++ List.replicate (3 - (lg_sl ([.ref ((u 9)), .int v1])).length) Slot.unset).toArray = ls at hl ⊢
  have hl : lv_has ls 3 [(0, .ref ((u 9))), (1, .int v1)] := hl
  rw [m_Waiting_input] at hm
  refine lv_aload_n hx hb d_Waiting_input_0 rfl (lv_at hl 0 rfl) ?_
  refine va_get (D := (dC, dI)) (ci := 9) (v := .int (i 43)) (C := R_Waiting) (T := F_Waiting) (N := 11) hx hb htt iw_Waiting hown hK hP 9 xo_9 rfl 9 (Nat.le_of_ble_eq_true rfl) (htt _ lk_Waiting_40) (fun _ h9 => h9) xg_9_9 d_Waiting_input_1 ?_
  refine lv_iload_n hx hb d_Waiting_input_4 rfl (lv_at hl 1 rfl) ?_
  refine lv_iadd hx hb d_Waiting_input_5 ?_
  refine lv_topi (fun x_1 ex_1 => ?_)
  replace hm := ob1_at ex_1 hm
  refine lv_istore_n (lv' := [(2, .int x_1), (0, .ref ((u 9))), (1, .int v1)]) hx hb d_Waiting_input_6 rfl hl (by decide) rfl (fun ls hl => ?_)
  refine lv_iload_n hx hb d_Waiting_input_7 rfl (lv_at hl 0 rfl) ?_
  refine lv_if_lt (tgt := 27) hx hb d_Waiting_input_8 (by decide) (fun c_2 => ?_) (fun c_2 => ?_)
  · replace hm := if_t c_2 hm
    refine lv_ldc (v := (-2147483648)) hx hb hown (htt _ lk_Waiting_62) d_Waiting_input_27 ?_
    have e3 := re1 hm
    exact W.iret hx hb hr (fun t9 ht hW => ⟨⟨_, (), rfl, e3.symm, trivial⟩, hS.F ht⟩) hS.2.2 d_Waiting_input_29
  · replace hm := if_f c_2 hm
    refine lv_iload_n hx hb d_Waiting_input_11 rfl (lv_at hl 0 rfl) ?_
    refine lv_sipush (v := 32000) hx hb d_Waiting_input_12 (by decide) ?_
    refine lv_icmp_ge (tgt := 27) hx hb d_Waiting_input_15 (by decide) (fun c_3 => ?_) (fun c_3 => ?_)
    · replace hm := if_t c_3 hm
      refine lv_ldc (v := (-2147483648)) hx hb hown (htt _ lk_Waiting_62) d_Waiting_input_27 ?_
      have e3 := re1 hm
      exact W.iret hx hb hr (fun t9 ht hW => ⟨⟨_, (), rfl, e3.symm, trivial⟩, hS.F ht⟩) hS.2.2 d_Waiting_input_29
    · replace hm := if_f c_3 hm
      refine lv_aload_n hx hb d_Waiting_input_18 rfl (lv_at hl 1 rfl) ?_
      refine va_get (D := (dC, dI)) (ci := 9) (v := .ref ((u 64))) (C := R_Waiting) (T := F_Waiting) (N := 11) hx hb htt iw_Waiting hown hK hP 9 xo_9 rfl 8 (Nat.le_of_ble_eq_true rfl) (htt _ lk_Waiting_33) (fun _ h9 => h9) xg_9_8 d_Waiting_input_19 ?_
      refine lv_iload_n hx hb d_Waiting_input_22 rfl (lv_at hl 0 rfl) ?_
      obtain ⟨h_4, hm⟩ := ck_some hm
      refine va_iald hx hb hK hP 66 0 twA_54 rfl h_4 d_Waiting_input_23 ?_
      refine lv_goto (tgt := 29) hx hb d_Waiting_input_24 (by decide) ?_
      have e3 := re1 hm
      exact W.iret hx hb hr (fun t9 ht hW => ⟨⟨_, (), rfl, e3.symm, trivial⟩, hS.F ht⟩) hS.2.2 d_Waiting_input_29

def m_Names_addLocal (n : Nat) (g : Nat → Nat) (i : Nat → Int32) (a : Nat → Nat → Int32) (v1 : Int32) (v2 : Int32) : Option ((Nat → Int32) × (Nat → Nat → Int32) × Int32) := if ((1800 : Int32)) ≤ ((i 13)) then some (i, a, (0 : Int32)) else ck ((i 13)) 1800 (ob1 (sv a 12 (i 13).toNatClampNeg v1 : Nat → Nat → Int32) (fun a_3 => ck ((i 13)) 1800 (ob1 (sv a_3 13 (i 13).toNatClampNeg v2 : Nat → Nat → Int32) (fun a_5 => ob1 ((i 13) + 1 : Int32) (fun x_6 => ob1 (upd i 13 x_6 : Nat → Int32) (fun i_7 => some (i_7, a_5, (0 : Int32))))))))
set_option maxHeartbeats 4000000 in
set_option maxRecDepth 100000 in
theorem x_Names_addLocal (l : Launch) (dC : Nat → ClassId) (dI : Nat → Nat → Nat) (cI : ClassId) (adK adV adA u o g : Nat → Nat) (sz : Nat) (n : Nat) {i : Nat → Int32} {a : Nat → Nat → Int32} {v1 : Int32} {v2 : Int32} {i2 : Nat → Int32} {a2 : Nat → Nat → Int32} {r2 : Int32} (hm : m_Names_addLocal n g i a v1 v2 = some (i2, a2, r2)) : Met l y_Names_addLocal w_Names_addLocal ({ frames := 0, cells := 0, slots := 0, locals := 0 } : Room) (va_Pc [.ref ((u 3)), .int v1, .int v2] (xE dC dI cI adK adV adA u o g i a sz)) (va_Qv xV (xB dC dI cI u o g i2 a2 (va_A (TW cI u o i a g) sz)) (va_A (TW cI u o i a g) sz)) 0 0 ((va_A (TW cI u o i a g) sz)) := by
  refine Met.ofW (cc := b_Names_addLocal) (maxL := 3) (ret := none) (by decide) rfl ?_
  intro p e s m args below meth c s₁ B hml hv
  obtain ⟨rfl, hsz, hP, hK, hE, hD0⟩ := hv
  have hx := B.exec
  have hb := B.bytes
  have hr := B.returns
  have hts := atoms_spec (ws := w_Names_addLocal) B.pre
  have htt : ∀ w ∈ tw_T, w.before _ s = true := fun w h => hts w (List.mem_cons_of_mem _ h)
  have hown : s.vm.findClass R_Names = some m.cls := findClass_of_methodNamed B.named
  have hlocks := B.notSynchronized
  subst hsz
  have hD := hD0.self (sz := s.heap.size)
  generalize hAe : (va_A (TW cI u o i a g) s.heap.size) = A at hD hE ⊢
  have hA : ∀ q : Nat, s.heap.size ≤ q → A q := fun q h => by rw [← hAe]; exact Or.inr h
  have hS : va_S A s.heap s.heap [] := va_S.rf
  have hl := lv_entry ([.ref ((u 3)), .int v1, .int v2]) (n := 3) (Nat.le_of_ble_eq_true rfl)
  rw [lg_entry_eq]
  generalize (lg_sl ([.ref ((u 3)), .int v1, .int v2]) ++ List.replicate (3 - (lg_sl ([.ref ((u 3)), .int v1, .int v2])).length) Slot.unset).toArray = ls at hl ⊢
  have hl : lv_has ls 3 [(0, .ref ((u 3))), (1, .int v1), (2, .int v2)] := hl
  rw [m_Names_addLocal] at hm
  refine lv_aload_n hx hb d_Names_addLocal_0 rfl (lv_at hl 0 rfl) ?_
  refine va_get (D := (dC, dI)) (ci := 3) (v := .int (i 13)) (C := R_Names) (T := F_Names) (N := 9) hx hb htt iw_Names hown hK hP 3 xo_3 rfl 6 (Nat.le_of_ble_eq_true rfl) (htt _ lk_Names_31) (fun _ h9 => h9) xg_3_6 d_Names_addLocal_1 ?_
  refine lv_sipush (v := 1800) hx hb d_Names_addLocal_4 (by decide) ?_
  refine lv_icmp_ge (tgt := 40) hx hb d_Names_addLocal_7 (by decide) (fun c_1 => ?_) (fun c_1 => ?_)
  · replace hm := if_t c_1 hm
    obtain ⟨e1i, e1a, e3⟩ := re3 hm
    obtain ⟨hP, hD⟩ := x_eq e1i e1a hP hD
    exact W.vret hx hb hr (fun t9 ht hW => ⟨⟨(), rfl, trivial, by rw [ht]; exact hP, hD⟩, hS.F ht⟩) hS.2.2 d_Names_addLocal_40
  · replace hm := if_f c_1 hm
    refine lv_aload_n hx hb d_Names_addLocal_10 rfl (lv_at hl 0 rfl) ?_
    refine va_get (D := (dC, dI)) (ci := 3) (v := .ref ((u 22))) (C := R_Names) (T := F_Names) (N := 9) hx hb htt iw_Names hown hK hP 3 xo_3 rfl 4 (Nat.le_of_ble_eq_true rfl) (htt _ lk_Names_18) (fun _ h9 => h9) xg_3_4 d_Names_addLocal_11 ?_
    refine lv_aload_n hx hb d_Names_addLocal_14 rfl (lv_at hl 0 rfl) ?_
    refine va_get (D := (dC, dI)) (ci := 3) (v := .int (i 13)) (C := R_Names) (T := F_Names) (N := 9) hx hb htt iw_Names hown hK hP 3 xo_3 rfl 6 (Nat.le_of_ble_eq_true rfl) (htt _ lk_Names_31) (fun _ h9 => h9) xg_3_6 d_Names_addLocal_15 ?_
    refine lv_iload_n hx hb d_Names_addLocal_18 rfl (lv_at hl 1 rfl) ?_
    obtain ⟨h_2, hm⟩ := ck_some hm
    refine va_iast hx hb hK hP hD hS 24 0 twA_12 rfl h_2 d_Names_addLocal_19 (fun H locs hP hD hS => ?_)
    obtain ⟨a_3, ea_3⟩ : ∃ y9 : Nat → Nat → Int32, y9 = sv a 12 (i 13).toNatClampNeg v1 := ⟨_, rfl⟩
    replace hm := ob1_at ea_3 hm
    obtain ⟨hP, hD⟩ := xv_12 ea_3 hP hD
    refine lv_aload_n hx hb d_Names_addLocal_20 rfl (lv_at hl 0 rfl) ?_
    refine va_get (D := (dC, dI)) (ci := 3) (v := .ref ((u 23))) (C := R_Names) (T := F_Names) (N := 9) hx hb htt iw_Names hown hK hP 3 xo_3 rfl 5 (Nat.le_of_ble_eq_true rfl) (htt _ lk_Names_21) (fun _ h9 => h9) xg_3_5 d_Names_addLocal_21 ?_
    refine lv_aload_n hx hb d_Names_addLocal_24 rfl (lv_at hl 0 rfl) ?_
    refine va_get (D := (dC, dI)) (ci := 3) (v := .int (i 13)) (C := R_Names) (T := F_Names) (N := 9) hx hb htt iw_Names hown hK hP 3 xo_3 rfl 6 (Nat.le_of_ble_eq_true rfl) (htt _ lk_Names_31) (fun _ h9 => h9) xg_3_6 d_Names_addLocal_25 ?_
    refine lv_iload_n hx hb d_Names_addLocal_28 rfl (lv_at hl 2 rfl) ?_
    obtain ⟨h_4, hm⟩ := ck_some hm
    refine va_iast hx hb hK hP hD hS 25 0 twA_13 rfl h_4 d_Names_addLocal_29 (fun H locs hP hD hS => ?_)
    obtain ⟨a_5, ea_5⟩ : ∃ y9 : Nat → Nat → Int32, y9 = sv a_3 13 (i 13).toNatClampNeg v2 := ⟨_, rfl⟩
    replace hm := ob1_at ea_5 hm
    obtain ⟨hP, hD⟩ := xv_13 ea_5 hP hD
    refine lv_aload_n hx hb d_Names_addLocal_30 rfl (lv_at hl 0 rfl) ?_
    refine lv_dup hx hb d_Names_addLocal_31 rfl ?_
    refine va_get (D := (dC, dI)) (ci := 3) (v := .int (i 13)) (C := R_Names) (T := F_Names) (N := 9) hx hb htt iw_Names hown hK hP 3 xo_3 rfl 6 (Nat.le_of_ble_eq_true rfl) (htt _ lk_Names_31) (fun _ h9 => h9) xg_3_6 d_Names_addLocal_32 ?_
    refine lv_iconst (v := 1) hx hb d_Names_addLocal_35 (by decide) ?_
    refine lv_iadd hx hb d_Names_addLocal_36 ?_
    refine lv_topi (fun x_6 ex_6 => ?_)
    replace hm := ob1_at ex_6 hm
    refine va_put (D := (dC, dI)) (ci := 3) (v := .int x_6) (ty := .int) (C := R_Names) (T := F_Names) (N := 9) hx hb htt iw_Names t_Names t_Names_ok n_Names hown hK hP hD hS 3 xo_3 rfl 6 (Nat.le_of_ble_eq_true rfl) (htt _ lk_Names_31) (fun _ h9 => h9) rfl (by decide +kernel) rfl rfl xl_3_6 d_Names_addLocal_37 (fun H locs hP hD hS => ?_)
    obtain ⟨i_7, ei_7⟩ : ∃ y9 : Nat → Int32, y9 = upd i 13 x_6 := ⟨_, rfl⟩
    replace hm := ob1_at ei_7 hm
    obtain ⟨hP, hD⟩ := xw_13 ei_7 hP hD
    obtain ⟨e1i, e1a, e3⟩ := re3 hm
    obtain ⟨hP, hD⟩ := x_eq e1i e1a hP hD
    exact W.vret hx hb hr (fun t9 ht hW => ⟨⟨(), rfl, trivial, by rw [ht]; exact hP, hD⟩, hS.F ht⟩) hS.2.2 d_Names_addLocal_40

def m_Lexicon_kind (n : Nat) (g : Nat → Nat) (i : Nat → Int32) (a : Nat → Nat → Int32) (v1 : Int32) (v2 : Int32) : Option (Int32) := if v1 < ((0 : Int32)) then some 118 else if ((86 : Int32)) ≤ v1 then some 118 else if v2 < ((0 : Int32)) then some 118 else if ((3 : Int32)) ≤ v2 then some 118 else ck (((v1 * 3) + v2)) 258 (some (a 8 ((v1 * 3) + v2).toNatClampNeg))
set_option maxHeartbeats 4000000 in
set_option maxRecDepth 100000 in
theorem x_Lexicon_kind (l : Launch) (dC : Nat → ClassId) (dI : Nat → Nat → Nat) (cI : ClassId) (adK adV adA u o g : Nat → Nat) (sz : Nat) (n : Nat) {i : Nat → Int32} {a : Nat → Nat → Int32} {v1 : Int32} {v2 : Int32} {r2 : Int32} (hm : m_Lexicon_kind n g i a v1 v2 = some r2) : Met l y_Lexicon_kind w_Lexicon_kind ({ frames := 0, cells := 0, slots := 0, locals := 0 } : Room) (va_Pc [.ref ((u 2)), .int v1, .int v2] (xEr dC dI cI adK adV adA u o g i a sz)) (va_Qi (xR r2) xT (xN sz)) 0 0 (xN sz) := by
  refine Met.ofW (cc := b_Lexicon_kind) (maxL := 3) (ret := (some .int)) (by decide) rfl ?_
  intro p e s m args below meth c s₁ B hml hv
  obtain ⟨rfl, hsz, hP, hK, hE⟩ := hv
  have hx := B.exec
  have hb := B.bytes
  have hr := B.returns
  have hts := atoms_spec (ws := w_Lexicon_kind) B.pre
  have htt : ∀ w ∈ tw_T, w.before _ s = true := fun w h => hts w (List.mem_cons_of_mem _ h)
  have hown : s.vm.findClass R_Lexicon = some m.cls := findClass_of_methodNamed B.named
  have hlocks := B.notSynchronized
  subst hsz
  generalize hAe : xN s.heap.size = A at hE ⊢
  have hA : ∀ q : Nat, s.heap.size ≤ q → A q := fun q h => by rw [← hAe]; exact Or.inr h
  have hS : va_S A s.heap s.heap [] := va_S.rf
  have hl := lv_entry ([.ref ((u 2)), .int v1, .int v2]) (n := 3) (Nat.le_of_ble_eq_true rfl)
  rw [lg_entry_eq]
  generalize (lg_sl ([.ref ((u 2)), .int v1, .int v2]) ++ List.replicate (3 - (lg_sl ([.ref ((u 2)), .int v1, .int v2])).length) Slot.unset).toArray = ls at hl ⊢
  have hl : lv_has ls 3 [(0, .ref ((u 2))), (1, .int v1), (2, .int v2)] := hl
  rw [m_Lexicon_kind] at hm
  refine lv_iload_n hx hb d_Lexicon_kind_0 rfl (lv_at hl 1 rfl) ?_
  refine lv_if_lt (tgt := 32) hx hb d_Lexicon_kind_1 (by decide) (fun c_1 => ?_) (fun c_1 => ?_)
  · replace hm := if_t c_1 hm
    refine lv_bipush (v := 118) hx hb d_Lexicon_kind_32 (by decide) ?_
    have e3 := re1 hm
    exact W.iret hx hb hr (fun t9 ht hW => ⟨⟨_, (), rfl, e3.symm, trivial⟩, hS.F ht⟩) hS.2.2 d_Lexicon_kind_34
  · replace hm := if_f c_1 hm
    refine lv_iload_n hx hb d_Lexicon_kind_4 rfl (lv_at hl 1 rfl) ?_
    refine lv_bipush (v := 86) hx hb d_Lexicon_kind_5 (by decide) ?_
    refine lv_icmp_ge (tgt := 32) hx hb d_Lexicon_kind_7 (by decide) (fun c_2 => ?_) (fun c_2 => ?_)
    · replace hm := if_t c_2 hm
      refine lv_bipush (v := 118) hx hb d_Lexicon_kind_32 (by decide) ?_
      have e3 := re1 hm
      exact W.iret hx hb hr (fun t9 ht hW => ⟨⟨_, (), rfl, e3.symm, trivial⟩, hS.F ht⟩) hS.2.2 d_Lexicon_kind_34
    · replace hm := if_f c_2 hm
      refine lv_iload_n hx hb d_Lexicon_kind_10 rfl (lv_at hl 2 rfl) ?_
      refine lv_if_lt (tgt := 32) hx hb d_Lexicon_kind_11 (by decide) (fun c_3 => ?_) (fun c_3 => ?_)
      · replace hm := if_t c_3 hm
        refine lv_bipush (v := 118) hx hb d_Lexicon_kind_32 (by decide) ?_
        have e3 := re1 hm
        exact W.iret hx hb hr (fun t9 ht hW => ⟨⟨_, (), rfl, e3.symm, trivial⟩, hS.F ht⟩) hS.2.2 d_Lexicon_kind_34
      · replace hm := if_f c_3 hm
        refine lv_iload_n hx hb d_Lexicon_kind_14 rfl (lv_at hl 2 rfl) ?_
        refine lv_iconst (v := 3) hx hb d_Lexicon_kind_15 (by decide) ?_
        refine lv_icmp_ge (tgt := 32) hx hb d_Lexicon_kind_16 (by decide) (fun c_4 => ?_) (fun c_4 => ?_)
        · replace hm := if_t c_4 hm
          refine lv_bipush (v := 118) hx hb d_Lexicon_kind_32 (by decide) ?_
          have e3 := re1 hm
          exact W.iret hx hb hr (fun t9 ht hW => ⟨⟨_, (), rfl, e3.symm, trivial⟩, hS.F ht⟩) hS.2.2 d_Lexicon_kind_34
        · replace hm := if_f c_4 hm
          refine lv_aload_n hx hb d_Lexicon_kind_19 rfl (lv_at hl 0 rfl) ?_
          refine va_get (D := (dC, dI)) (ci := 2) (v := .ref ((u 18))) (C := R_Lexicon) (T := F_Lexicon) (N := 7) hx hb htt iw_Lexicon hown hK hP 2 xo_2 rfl 3 (Nat.le_of_ble_eq_true rfl) (htt _ lk_Lexicon_21) (fun _ h9 => h9) xg_2_3 d_Lexicon_kind_20 ?_
          refine lv_iload_n hx hb d_Lexicon_kind_23 rfl (lv_at hl 1 rfl) ?_
          refine lv_iconst (v := 3) hx hb d_Lexicon_kind_24 (by decide) ?_
          refine lv_imul hx hb d_Lexicon_kind_25 ?_
          refine lv_iload_n hx hb d_Lexicon_kind_26 rfl (lv_at hl 2 rfl) ?_
          refine lv_iadd hx hb d_Lexicon_kind_27 ?_
          obtain ⟨h_5, hm⟩ := ck_some hm
          refine va_iald hx hb hK hP 20 0 twA_8 rfl h_5 d_Lexicon_kind_28 ?_
          refine lv_goto (tgt := 34) hx hb d_Lexicon_kind_29 (by decide) ?_
          have e3 := re1 hm
          exact W.iret hx hb hr (fun t9 ht hW => ⟨⟨_, (), rfl, e3.symm, trivial⟩, hS.F ht⟩) hS.2.2 d_Lexicon_kind_34

def m_Turtles_exists (n : Nat) (v0 : Int32) : Option (Int32) := if v0 < ((0 : Int32)) then some 0 else if ((8 : Int32)) ≤ v0 then some 0 else some 1
set_option maxHeartbeats 4000000 in
set_option maxRecDepth 100000 in
theorem x_Turtles_exists (l : Launch) (sz : Nat) (n : Nat) {v0 : Int32} {r2 : Int32} (hm : m_Turtles_exists n v0 = some r2) : Met l y_Turtles_exists w_Turtles_exists ({ frames := 0, cells := 0, slots := 0, locals := 0 } : Room) (va_Pc [.int v0] (xE0 sz)) (va_Qi (xR r2) xT (xN sz)) 0 0 (xN sz) := by
  refine Met.ofW (cc := b_Turtles_exists) (maxL := 1) (ret := (some .boolean)) (by decide) rfl ?_
  intro p e s m args below meth c s₁ B hml hv
  obtain ⟨rfl, hsz⟩ := hv
  have hx := B.exec
  have hb := B.bytes
  have hr := B.returns
  have hts := atoms_spec (ws := w_Turtles_exists) B.pre
  have htt : ∀ w ∈ tw_T, w.before _ s = true := fun w h => hts w (List.mem_cons_of_mem _ h)
  have hown : s.vm.findClass R_Turtles = some m.cls := findClass_of_methodNamed B.named
  have hlocks := B.notSynchronized
  subst hsz
  generalize hAe : xN s.heap.size = A
  have hA : ∀ q : Nat, s.heap.size ≤ q → A q := fun q h => by rw [← hAe]; exact Or.inr h
  have hS : va_S A s.heap s.heap [] := va_S.rf
  have hl := lv_entry ([.int v0]) (n := 1) (Nat.le_of_ble_eq_true rfl)
  rw [lg_entry_eq]
  generalize (lg_sl ([.int v0]) ++ List.replicate (1 - (lg_sl ([.int v0])).length) Slot.unset).toArray = ls at hl ⊢
  have hl : lv_has ls 1 [(0, .int v0)] := hl
  rw [m_Turtles_exists] at hm
  refine lv_iload_n hx hb d_Turtles_exists_0 rfl (lv_at hl 0 rfl) ?_
  refine lv_if_lt (tgt := 14) hx hb d_Turtles_exists_1 (by decide) (fun c_1 => ?_) (fun c_1 => ?_)
  · replace hm := if_t c_1 hm
    refine lv_iconst (v := 0) hx hb d_Turtles_exists_14 (by decide) ?_
    have e3 := re1 hm
    exact W.zret hx hb hr (by decide) (fun t9 ht hW => ⟨⟨_, (), rfl, e3.symm, trivial⟩, hS.F ht⟩) hS.2.2 d_Turtles_exists_15
  · replace hm := if_f c_1 hm
    refine lv_iload_n hx hb d_Turtles_exists_4 rfl (lv_at hl 0 rfl) ?_
    refine lv_bipush (v := 8) hx hb d_Turtles_exists_5 (by decide) ?_
    refine lv_icmp_ge (tgt := 14) hx hb d_Turtles_exists_7 (by decide) (fun c_2 => ?_) (fun c_2 => ?_)
    · replace hm := if_t c_2 hm
      refine lv_iconst (v := 0) hx hb d_Turtles_exists_14 (by decide) ?_
      have e3 := re1 hm
      exact W.zret hx hb hr (by decide) (fun t9 ht hW => ⟨⟨_, (), rfl, e3.symm, trivial⟩, hS.F ht⟩) hS.2.2 d_Turtles_exists_15
    · replace hm := if_f c_2 hm
      refine lv_iconst (v := 1) hx hb d_Turtles_exists_10 (by decide) ?_
      refine lv_goto (tgt := 15) hx hb d_Turtles_exists_11 (by decide) ?_
      have e3 := re1 hm
      exact W.zret hx hb hr (by decide) (fun t9 ht hW => ⟨⟨_, (), rfl, e3.symm, trivial⟩, hS.F ht⟩) hS.2.2 d_Turtles_exists_15

def m_Turtles_floorRoot_b54 (n : Nat) (v0 : Int64) (v6 : Int64) : Option (Int64) := if ((0 : Int32)) ≤ ((lg_cmp v0 0)) then some v6 else some ((-v6) - 1)
set_option maxHeartbeats 4000000 in
set_option maxRecDepth 100000 in
theorem lb_Turtles_floorRoot_54 (l : Launch) (n : Nat) {p : Program} {e : Env} {s : State} {m : MethodId} {args : Array Value} {below : List Frame} {meth : Method} {c : Code} {A : Nat → Prop} (hx : p.tables.exec = Jvm.exec) (hb : c.code = b_Turtles_floorRoot) (hml : c.maxLocals = 8) (hown : s.vm.findClass R_Turtles = some m.cls) (hts : ∀ w ∈ w_Turtles_floorRoot, w.before args s = true) (hA : ∀ q : Nat, s.heap.size ≤ q → A q) (hr : meth.sig.returnType = (some .long)) (hlocks : meth.locks = false) {r2 : Int64} (v0 : Int64) (v6 : Int64) (hm : m_Turtles_floorRoot_b54 n v0 v6 = some r2) : ∀ (H : Heap) (locs : List Loc) (ls : Array Slot), va_S A s.heap H locs → lv_has ls 8 [(0, .long v0), (6, .long v6)] → W p l e ({ frames := 0, cells := 0, slots := 0, locals := 0 } : Room) s m args below meth c H locs 0 0 (MQ below (va_Ql (xR r2) xT A) args s 0 0 A) (F0 m 54 ls []) := by
  have htt : ∀ w ∈ tw_T, w.before _ s = true := fun w h => hts w (List.mem_cons_of_mem _ h)
  intro H locs ls hS hl
  rw [m_Turtles_floorRoot_b54] at hm
  refine lv_lload_n hx hb d_Turtles_floorRoot_54 rfl (lv_at hl 0 rfl) ?_
  refine lv_lconst (v := 0) hx hb d_Turtles_floorRoot_55 (by decide) ?_
  refine W.lcmp hx hb d_Turtles_floorRoot_56 ?_
  refine lv_if_ge (tgt := 68) hx hb d_Turtles_floorRoot_57 (by decide) (fun c_1 => ?_) (fun c_1 => ?_)
  · replace hm := if_t c_1 hm
    refine lv_lload hx hb d_Turtles_floorRoot_68 (lv_at hl 1 rfl) ?_
    have e3 := re1 hm
    exact W.lret hx hb hr (fun t9 ht hW => ⟨⟨_, (), rfl, e3.symm, trivial⟩, hS.F ht⟩) hS.2.2 d_Turtles_floorRoot_70
  · replace hm := if_f c_1 hm
    refine lv_lload hx hb d_Turtles_floorRoot_60 (lv_at hl 1 rfl) ?_
    refine lv_lneg hx hb d_Turtles_floorRoot_62 ?_
    refine lv_lconst (v := 1) hx hb d_Turtles_floorRoot_63 (by decide) ?_
    refine lv_lsub hx hb d_Turtles_floorRoot_64 ?_
    refine lv_goto (tgt := 70) hx hb d_Turtles_floorRoot_65 (by decide) ?_
    have e3 := re1 hm
    exact W.lret hx hb hr (fun t9 ht hW => ⟨⟨_, (), rfl, e3.symm, trivial⟩, hS.F ht⟩) hS.2.2 d_Turtles_floorRoot_70
def m_Turtles_floorRoot_b12 (n : Nat) (v0 : Int64) (s0 : Int64) : Option (Int64) := ob1 ((3 * s0) * s0 : Int64) (fun x_1 => ob1 ((s0 * 1732050807) / 1000000000 : Int64) (fun x_2 => if ((0 : Int32)) < ((lg_cmp ((x_2 + 1) * (x_2 + 1)) x_1)) then m_Turtles_floorRoot_b54 n v0 x_2 else ob1 (x_2 + 1 : Int64) (fun x_4 => m_Turtles_floorRoot_b54 n v0 x_4)))
set_option maxHeartbeats 4000000 in
set_option maxRecDepth 100000 in
theorem lb_Turtles_floorRoot_12 (l : Launch) (n : Nat) {p : Program} {e : Env} {s : State} {m : MethodId} {args : Array Value} {below : List Frame} {meth : Method} {c : Code} {A : Nat → Prop} (hx : p.tables.exec = Jvm.exec) (hb : c.code = b_Turtles_floorRoot) (hml : c.maxLocals = 8) (hown : s.vm.findClass R_Turtles = some m.cls) (hts : ∀ w ∈ w_Turtles_floorRoot, w.before args s = true) (hA : ∀ q : Nat, s.heap.size ≤ q → A q) (hr : meth.sig.returnType = (some .long)) (hlocks : meth.locks = false) {r2 : Int64} (v0 : Int64) (s0 : Int64) (hm : m_Turtles_floorRoot_b12 n v0 s0 = some r2) : ∀ (H : Heap) (locs : List Loc) (ls : Array Slot), va_S A s.heap H locs → lv_has ls 8 [(0, .long v0)] → W p l e ({ frames := 0, cells := 0, slots := 0, locals := 0 } : Room) s m args below meth c H locs 0 0 (MQ below (va_Ql (xR r2) xT A) args s 0 0 A) (F0 m 12 ls [.long s0]) := by
  have htt : ∀ w ∈ tw_T, w.before _ s = true := fun w h => hts w (List.mem_cons_of_mem _ h)
  intro H locs ls hS hl
  rw [m_Turtles_floorRoot_b12] at hm
  refine lv_lstore_n (lv' := [(2, .long s0), (0, .long v0)]) hx hb d_Turtles_floorRoot_12 rfl hl (by decide) rfl (fun ls hl => ?_)
  refine lv_ldc2 (v := 3) hx hb hown (htt _ lk_Turtles_38) d_Turtles_floorRoot_13 ?_
  refine lv_lload_n hx hb d_Turtles_floorRoot_16 rfl (lv_at hl 0 rfl) ?_
  refine lv_lmul hx hb d_Turtles_floorRoot_17 ?_
  refine lv_lload_n hx hb d_Turtles_floorRoot_18 rfl (lv_at hl 0 rfl) ?_
  refine lv_lmul hx hb d_Turtles_floorRoot_19 ?_
  refine lv_topl (fun x_1 ex_1 => ?_)
  replace hm := ob1_at ex_1 hm
  refine lv_lstore (lv' := [(4, .long x_1), (2, .long s0), (0, .long v0)]) hx hb d_Turtles_floorRoot_20 hl (by decide) rfl (fun ls hl => ?_)
  refine lv_lload_n hx hb d_Turtles_floorRoot_22 rfl (lv_at hl 1 rfl) ?_
  refine lv_ldc2 (v := 1732050807) hx hb hown (htt _ lk_Turtles_40) d_Turtles_floorRoot_23 ?_
  refine lv_lmul hx hb d_Turtles_floorRoot_26 ?_
  refine lv_ldc2 (v := 1000000000) hx hb hown (htt _ lk_Turtles_42) d_Turtles_floorRoot_27 ?_
  refine lv_ldiv hx hb d_Turtles_floorRoot_30 (by decide) ?_
  refine lv_topl (fun x_2 ex_2 => ?_)
  replace hm := ob1_at ex_2 hm
  refine lv_lstore (lv' := [(6, .long x_2), (4, .long x_1), (2, .long s0), (0, .long v0)]) hx hb d_Turtles_floorRoot_31 hl (by decide) rfl (fun ls hl => ?_)
  refine lv_lload hx hb d_Turtles_floorRoot_33 (lv_at hl 0 rfl) ?_
  refine lv_lconst (v := 1) hx hb d_Turtles_floorRoot_35 (by decide) ?_
  refine lv_ladd hx hb d_Turtles_floorRoot_36 ?_
  refine lv_lload hx hb d_Turtles_floorRoot_37 (lv_at hl 0 rfl) ?_
  refine lv_lconst (v := 1) hx hb d_Turtles_floorRoot_39 (by decide) ?_
  refine lv_ladd hx hb d_Turtles_floorRoot_40 ?_
  refine lv_lmul hx hb d_Turtles_floorRoot_41 ?_
  refine lv_lload hx hb d_Turtles_floorRoot_42 (lv_at hl 1 rfl) ?_
  refine W.lcmp hx hb d_Turtles_floorRoot_44 ?_
  refine lv_if_gt (tgt := 54) hx hb d_Turtles_floorRoot_45 (by decide) (fun c_3 => ?_) (fun c_3 => ?_)
  · replace hm := if_t c_3 hm
    exact lb_Turtles_floorRoot_54 l n hx hb hml hown hts hA hr hlocks _ _ hm _ _ _ hS (lv_sub hl [3, 0] rfl)
  · replace hm := if_f c_3 hm
    refine lv_lload hx hb d_Turtles_floorRoot_48 (lv_at hl 0 rfl) ?_
    refine lv_lconst (v := 1) hx hb d_Turtles_floorRoot_50 (by decide) ?_
    refine lv_ladd hx hb d_Turtles_floorRoot_51 ?_
    refine lv_topl (fun x_4 ex_4 => ?_)
    replace hm := ob1_at ex_4 hm
    refine lv_lstore (lv' := [(6, .long x_4), (4, .long x_1), (2, .long s0), (0, .long v0)]) hx hb d_Turtles_floorRoot_52 hl (by decide) rfl (fun ls hl => ?_)
    exact lb_Turtles_floorRoot_54 l n hx hb hml hown hts hA hr hlocks _ _ hm _ _ _ hS (lv_sub hl [3, 0] rfl)
def m_Turtles_floorRoot (n : Nat) (v0 : Int64) : Option (Int64) := if ((0 : Int32)) ≤ ((lg_cmp v0 0)) then m_Turtles_floorRoot_b12 n v0 v0 else m_Turtles_floorRoot_b12 n v0 (-v0)
set_option maxHeartbeats 4000000 in
set_option maxRecDepth 100000 in
theorem x_Turtles_floorRoot (l : Launch) (sz : Nat) (n : Nat) {v0 : Int64} {r2 : Int64} (hm : m_Turtles_floorRoot n v0 = some r2) : Met l y_Turtles_floorRoot w_Turtles_floorRoot ({ frames := 0, cells := 0, slots := 0, locals := 0 } : Room) (va_Pc [.long v0] (xE0 sz)) (va_Ql (xR r2) xT (xN sz)) 0 0 (xN sz) := by
  refine Met.ofW (cc := b_Turtles_floorRoot) (maxL := 8) (ret := (some .long)) (by decide) rfl ?_
  intro p e s m args below meth c s₁ B hml hv
  obtain ⟨rfl, hsz⟩ := hv
  have hx := B.exec
  have hb := B.bytes
  have hr := B.returns
  have hts := atoms_spec (ws := w_Turtles_floorRoot) B.pre
  have htt : ∀ w ∈ tw_T, w.before _ s = true := fun w h => hts w (List.mem_cons_of_mem _ h)
  have hown : s.vm.findClass R_Turtles = some m.cls := findClass_of_methodNamed B.named
  have hlocks := B.notSynchronized
  subst hsz
  generalize hAe : xN s.heap.size = A
  have hA : ∀ q : Nat, s.heap.size ≤ q → A q := fun q h => by rw [← hAe]; exact Or.inr h
  have hS : va_S A s.heap s.heap [] := va_S.rf
  have hl := lv_entry ([.long v0]) (n := 8) (Nat.le_of_ble_eq_true rfl)
  rw [lg_entry_eq]
  generalize (lg_sl ([.long v0]) ++ List.replicate (8 - (lg_sl ([.long v0])).length) Slot.unset).toArray = ls at hl ⊢
  have hl : lv_has ls 8 [(0, .long v0)] := hl
  rw [m_Turtles_floorRoot] at hm
  refine lv_lload_n hx hb d_Turtles_floorRoot_0 rfl (lv_at hl 0 rfl) ?_
  refine lv_lconst (v := 0) hx hb d_Turtles_floorRoot_1 (by decide) ?_
  refine W.lcmp hx hb d_Turtles_floorRoot_2 ?_
  refine lv_if_ge (tgt := 11) hx hb d_Turtles_floorRoot_3 (by decide) (fun c_1 => ?_) (fun c_1 => ?_)
  · replace hm := if_t c_1 hm
    refine lv_lload_n hx hb d_Turtles_floorRoot_11 rfl (lv_at hl 0 rfl) ?_
    exact lb_Turtles_floorRoot_12 l n hx hb hml hown hts hA hr hlocks _ _ hm _ _ _ hS (lv_sub hl [0] rfl)
  · replace hm := if_f c_1 hm
    refine lv_lload_n hx hb d_Turtles_floorRoot_6 rfl (lv_at hl 0 rfl) ?_
    refine lv_lneg hx hb d_Turtles_floorRoot_7 ?_
    refine lv_goto (tgt := 12) hx hb d_Turtles_floorRoot_8 (by decide) ?_
    exact lb_Turtles_floorRoot_12 l n hx hb hml hown hts hA hr hlocks _ _ hm _ _ _ hS (lv_sub hl [0] rfl)

def m_Turtles_dotAt (n : Nat) (v0 : Int32) (v1 : Int32) : Option (Int32) := some (((((v1 + 32) * 64) + v0) + 32) &&& 4095)
set_option maxHeartbeats 4000000 in
set_option maxRecDepth 100000 in
theorem x_Turtles_dotAt (l : Launch) (sz : Nat) (n : Nat) {v0 : Int32} {v1 : Int32} {r2 : Int32} (hm : m_Turtles_dotAt n v0 v1 = some r2) : Met l y_Turtles_dotAt w_Turtles_dotAt ({ frames := 0, cells := 0, slots := 0, locals := 0 } : Room) (va_Pc [.int v0, .int v1] (xE0 sz)) (va_Qi (xR r2) xT (xN sz)) 0 0 (xN sz) := by
  refine Met.ofW (cc := b_Turtles_dotAt) (maxL := 2) (ret := (some .int)) (by decide) rfl ?_
  intro p e s m args below meth c s₁ B hml hv
  obtain ⟨rfl, hsz⟩ := hv
  have hx := B.exec
  have hb := B.bytes
  have hr := B.returns
  have hts := atoms_spec (ws := w_Turtles_dotAt) B.pre
  have htt : ∀ w ∈ tw_T, w.before _ s = true := fun w h => hts w (List.mem_cons_of_mem _ h)
  have hown : s.vm.findClass R_Turtles = some m.cls := findClass_of_methodNamed B.named
  have hlocks := B.notSynchronized
  subst hsz
  generalize hAe : xN s.heap.size = A
  have hA : ∀ q : Nat, s.heap.size ≤ q → A q := fun q h => by rw [← hAe]; exact Or.inr h
  have hS : va_S A s.heap s.heap [] := va_S.rf
  have hl := lv_entry ([.int v0, .int v1]) (n := 2) (Nat.le_of_ble_eq_true rfl)
  rw [lg_entry_eq]
  generalize (lg_sl ([.int v0, .int v1]) ++ List.replicate (2 - (lg_sl ([.int v0, .int v1])).length) Slot.unset).toArray = ls at hl ⊢
  have hl : lv_has ls 2 [(0, .int v0), (1, .int v1)] := hl
  rw [m_Turtles_dotAt] at hm
  refine lv_iload_n hx hb d_Turtles_dotAt_0 rfl (lv_at hl 1 rfl) ?_
  refine lv_bipush (v := 32) hx hb d_Turtles_dotAt_1 (by decide) ?_
  refine lv_iadd hx hb d_Turtles_dotAt_3 ?_
  refine lv_bipush (v := 64) hx hb d_Turtles_dotAt_4 (by decide) ?_
  refine lv_imul hx hb d_Turtles_dotAt_6 ?_
  refine lv_iload_n hx hb d_Turtles_dotAt_7 rfl (lv_at hl 0 rfl) ?_
  refine lv_iadd hx hb d_Turtles_dotAt_8 ?_
  refine lv_bipush (v := 32) hx hb d_Turtles_dotAt_9 (by decide) ?_
  refine lv_iadd hx hb d_Turtles_dotAt_11 ?_
  refine lv_sipush (v := 4095) hx hb d_Turtles_dotAt_12 (by decide) ?_
  refine lv_iand hx hb d_Turtles_dotAt_15 ?_
  have e3 := re1 hm
  exact W.iret hx hb hr (fun t9 ht hW => ⟨⟨_, (), rfl, e3.symm, trivial⟩, hS.F ht⟩) hS.2.2 d_Turtles_dotAt_16

def m_Turtles_wipe (n : Nat) (g : Nat → Nat) (i : Nat → Int32) (a : Nat → Nat → Int32)  : Option ((Nat → Int32) × (Nat → Nat → Int32) × Int32) := ob1 (updA a 21 (js_fill 0 0 4096 (a 21)) : Nat → Nat → Int32) (fun a_1 => some (i, a_1, (-2147483648)))
set_option maxHeartbeats 4000000 in
set_option maxRecDepth 100000 in
theorem x_Turtles_wipe (l : Launch) (dC : Nat → ClassId) (dI : Nat → Nat → Nat) (cI : ClassId) (adK adV adA u o g : Nat → Nat) (sz : Nat) (n : Nat) {i : Nat → Int32} {a : Nat → Nat → Int32}  {i2 : Nat → Int32} {a2 : Nat → Nat → Int32} {r2 : Int32} (hm : m_Turtles_wipe n g i a = some (i2, a2, r2)) : Met l y_Turtles_wipe w_Turtles_wipe ({ frames := 1, cells := 0, slots := 0, locals := 23 } : Room) (va_Pc [.ref ((u 5))] (xE dC dI cI adK adV adA u o g i a sz)) (va_Qi (xR r2) (xB dC dI cI u o g i2 a2 (va_A (TW cI u o i a g) sz)) (va_A (TW cI u o i a g) sz)) 0 0 ((va_A (TW cI u o i a g) sz)) := by
  refine Met.ofW (cc := b_Turtles_wipe) (maxL := 1) (ret := (some .int)) (by decide) rfl ?_
  intro p e s m args below meth c s₁ B hml hv
  obtain ⟨rfl, hsz, hP, hK, hE, hD0⟩ := hv
  have hx := B.exec
  have hb := B.bytes
  have hr := B.returns
  have hts := atoms_spec (ws := w_Turtles_wipe) B.pre
  have htt : ∀ w ∈ tw_T, w.before _ s = true := fun w h => hts w (List.mem_cons_of_mem _ h)
  have hown : s.vm.findClass R_Turtles = some m.cls := findClass_of_methodNamed B.named
  have hlocks := B.notSynchronized
  subst hsz
  have hD := hD0.self (sz := s.heap.size)
  generalize hAe : (va_A (TW cI u o i a g) s.heap.size) = A at hD hE ⊢
  have hA : ∀ q : Nat, s.heap.size ≤ q → A q := fun q h => by rw [← hAe]; exact Or.inr h
  have hS : va_S A s.heap s.heap [] := va_S.rf
  have hl := lv_entry ([.ref ((u 5))]) (n := 1) (Nat.le_of_ble_eq_true rfl)
  rw [lg_entry_eq]
  generalize (lg_sl ([.ref ((u 5))]) ++ List.replicate (1 - (lg_sl ([.ref ((u 5))])).length) Slot.unset).toArray = ls at hl ⊢
  have hl : lv_has ls 1 [(0, .ref ((u 5)))] := hl
  rw [m_Turtles_wipe] at hm
  refine lv_aload_n hx hb d_Turtles_wipe_0 rfl (lv_at hl 0 rfl) ?_
  refine va_get (D := (dC, dI)) (ci := 5) (v := .ref ((u 31))) (C := R_Turtles) (T := F_Turtles) (N := 8) hx hb htt iw_Turtles hown hK hP 5 xo_5 rfl 1 (Nat.le_of_ble_eq_true rfl) (htt _ lk_Turtles_15) (fun _ h9 => h9) xg_5_1 d_Turtles_wipe_1 ?_
  refine lv_iconst (v := 0) hx hb d_Turtles_wipe_4 (by decide) ?_
  have hPc := hP.sub (ws' := [(u 31, .inl (cI, 4096, .inl (a 21)))]) [33] rfl
  have hDc := hD.sub (ws' := [(u 31, .inl (cI, 4096, .inl (a 21)))]) [33] (by decide) rfl
  have hFc := va_free (wc := [(u 31, .inl (cI, 4096, .inl (a 21)))]) hD hS hA [33] rfl
  refine va_callv (va_runS (As := [.ref (u 31), .int 0]) (rest := []) ⟨hx, hb, hml, hown, hts⟩ (c_Arrays_fill l dC dI s.heap.size (u 31) cI 4096 (a 21) 0 (by decide)) (va_cwS 2 hts (tw_GS tw_cons cw_Arrays_fill lk_Turtles_131 st_Arrays_fill ini_Arrays) rfl rfl rfl (by decide +kernel) ⟨Nat.le_of_ble_eq_true rfl, Nat.le_of_ble_eq_true rfl⟩) ⟨fun a U g mk q => by obtain ⟨q0, q1, qP, qK, qD⟩ := q; exact ⟨q0, q1, qP, va_K.moved (u := U) (U := U.calling g mk a) (Vm.Alike.refl U.vm) qK, qD⟩, fun U hU hW => ⟨rfl, by rw [hU], by rw [hU]; exact hPc, va_K.moved hW.alike hK, hDc.weaken (fun _ _ _ _ => trivial)⟩⟩ rfl rfl hl.1 rfl (lv_room (Nat.le_of_ble_eq_true rfl)) d_Turtles_wipe_5 ⟨Nat.le_of_ble_eq_true rfl, Nat.le_of_ble_eq_true rfl⟩) hS (fun q _ h => hFc q h) hFc (fun u9 t9 H locs ht hvm e9 hB hz1 hk1 hS => ?_)
  obtain ⟨hP1, hK1, hD1⟩ := hB
  rw [ht] at hP1
  replace hP := x_one hP hD twA_21 hk1 hP1
  replace hD := hD.set (e := .inl (cI, 4096, .inl (js_fill 0 0 4096 (a 21)))) twA_21
  obtain ⟨a_1, ea_1⟩ : ∃ y9 : Nat → Nat → Int32, y9 = updA a 21 (js_fill 0 0 4096 (a 21)) := ⟨_, rfl⟩
  replace hm := ob1_at ea_1 hm
  obtain ⟨hP, hD⟩ := xv_21 ea_1 hP hD
  clear hP1 hD1 hK1 hvm hz1 hk1 hFc hDc hPc ht
  refine lv_ldc (v := (-2147483648)) hx hb hown (htt _ lk_Turtles_83) d_Turtles_wipe_8 ?_
  obtain ⟨e1i, e1a, e3⟩ := re3 hm
  obtain ⟨hP, hD⟩ := x_eq e1i e1a hP hD
  exact W.iret hx hb hr (fun t9 ht hW => ⟨⟨_, (), rfl, e3.symm, by rw [ht]; exact hP, hD⟩, hS.F ht⟩) hS.2.2 d_Turtles_wipe_10

def m_Turtles_onScreen (n : Nat) (v0 : Int64) (v2 : Int64) : Option (Int32) := if ((lg_cmp v0 ((-32)))) < ((0 : Int32)) then some 0 else if ((0 : Int32)) ≤ ((lg_cmp v0 32)) then some 0 else if ((lg_cmp v2 ((-32)))) < ((0 : Int32)) then some 0 else if ((0 : Int32)) ≤ ((lg_cmp v2 32)) then some 0 else some 1
set_option maxHeartbeats 4000000 in
set_option maxRecDepth 100000 in
theorem x_Turtles_onScreen (l : Launch) (sz : Nat) (n : Nat) {v0 : Int64} {v2 : Int64} {r2 : Int32} (hm : m_Turtles_onScreen n v0 v2 = some r2) : Met l y_Turtles_onScreen w_Turtles_onScreen ({ frames := 0, cells := 0, slots := 0, locals := 0 } : Room) (va_Pc [.long v0, .long v2] (xE0 sz)) (va_Qi (xR r2) xT (xN sz)) 0 0 (xN sz) := by
  refine Met.ofW (cc := b_Turtles_onScreen) (maxL := 4) (ret := (some .boolean)) (by decide) rfl ?_
  intro p e s m args below meth c s₁ B hml hv
  obtain ⟨rfl, hsz⟩ := hv
  have hx := B.exec
  have hb := B.bytes
  have hr := B.returns
  have hts := atoms_spec (ws := w_Turtles_onScreen) B.pre
  have htt : ∀ w ∈ tw_T, w.before _ s = true := fun w h => hts w (List.mem_cons_of_mem _ h)
  have hown : s.vm.findClass R_Turtles = some m.cls := findClass_of_methodNamed B.named
  have hlocks := B.notSynchronized
  subst hsz
  generalize hAe : xN s.heap.size = A
  have hA : ∀ q : Nat, s.heap.size ≤ q → A q := fun q h => by rw [← hAe]; exact Or.inr h
  have hS : va_S A s.heap s.heap [] := va_S.rf
  have hl := lv_entry ([.long v0, .long v2]) (n := 4) (Nat.le_of_ble_eq_true rfl)
  rw [lg_entry_eq]
  generalize (lg_sl ([.long v0, .long v2]) ++ List.replicate (4 - (lg_sl ([.long v0, .long v2])).length) Slot.unset).toArray = ls at hl ⊢
  have hl : lv_has ls 4 [(0, .long v0), (2, .long v2)] := hl
  rw [m_Turtles_onScreen] at hm
  refine lv_lload_n hx hb d_Turtles_onScreen_0 rfl (lv_at hl 0 rfl) ?_
  refine lv_ldc2 (v := (-32)) hx hb hown (htt _ lk_Turtles_87) d_Turtles_onScreen_1 ?_
  refine W.lcmp hx hb d_Turtles_onScreen_4 ?_
  refine lv_if_lt (tgt := 36) hx hb d_Turtles_onScreen_5 (by decide) (fun c_1 => ?_) (fun c_1 => ?_)
  · replace hm := if_t c_1 hm
    refine lv_iconst (v := 0) hx hb d_Turtles_onScreen_36 (by decide) ?_
    have e3 := re1 hm
    exact W.zret hx hb hr (by decide) (fun t9 ht hW => ⟨⟨_, (), rfl, e3.symm, trivial⟩, hS.F ht⟩) hS.2.2 d_Turtles_onScreen_37
  · replace hm := if_f c_1 hm
    refine lv_lload_n hx hb d_Turtles_onScreen_8 rfl (lv_at hl 0 rfl) ?_
    refine lv_ldc2 (v := 32) hx hb hown (htt _ lk_Turtles_108) d_Turtles_onScreen_9 ?_
    refine W.lcmp hx hb d_Turtles_onScreen_12 ?_
    refine lv_if_ge (tgt := 36) hx hb d_Turtles_onScreen_13 (by decide) (fun c_2 => ?_) (fun c_2 => ?_)
    · replace hm := if_t c_2 hm
      refine lv_iconst (v := 0) hx hb d_Turtles_onScreen_36 (by decide) ?_
      have e3 := re1 hm
      exact W.zret hx hb hr (by decide) (fun t9 ht hW => ⟨⟨_, (), rfl, e3.symm, trivial⟩, hS.F ht⟩) hS.2.2 d_Turtles_onScreen_37
    · replace hm := if_f c_2 hm
      refine lv_lload_n hx hb d_Turtles_onScreen_16 rfl (lv_at hl 1 rfl) ?_
      refine lv_ldc2 (v := (-32)) hx hb hown (htt _ lk_Turtles_87) d_Turtles_onScreen_17 ?_
      refine W.lcmp hx hb d_Turtles_onScreen_20 ?_
      refine lv_if_lt (tgt := 36) hx hb d_Turtles_onScreen_21 (by decide) (fun c_3 => ?_) (fun c_3 => ?_)
      · replace hm := if_t c_3 hm
        refine lv_iconst (v := 0) hx hb d_Turtles_onScreen_36 (by decide) ?_
        have e3 := re1 hm
        exact W.zret hx hb hr (by decide) (fun t9 ht hW => ⟨⟨_, (), rfl, e3.symm, trivial⟩, hS.F ht⟩) hS.2.2 d_Turtles_onScreen_37
      · replace hm := if_f c_3 hm
        refine lv_lload_n hx hb d_Turtles_onScreen_24 rfl (lv_at hl 1 rfl) ?_
        refine lv_ldc2 (v := 32) hx hb hown (htt _ lk_Turtles_108) d_Turtles_onScreen_25 ?_
        refine W.lcmp hx hb d_Turtles_onScreen_28 ?_
        refine lv_if_ge (tgt := 36) hx hb d_Turtles_onScreen_29 (by decide) (fun c_4 => ?_) (fun c_4 => ?_)
        · replace hm := if_t c_4 hm
          refine lv_iconst (v := 0) hx hb d_Turtles_onScreen_36 (by decide) ?_
          have e3 := re1 hm
          exact W.zret hx hb hr (by decide) (fun t9 ht hW => ⟨⟨_, (), rfl, e3.symm, trivial⟩, hS.F ht⟩) hS.2.2 d_Turtles_onScreen_37
        · replace hm := if_f c_4 hm
          refine lv_iconst (v := 1) hx hb d_Turtles_onScreen_32 (by decide) ?_
          refine lv_goto (tgt := 37) hx hb d_Turtles_onScreen_33 (by decide) ?_
          have e3 := re1 hm
          exact W.zret hx hb hr (by decide) (fun t9 ht hW => ⟨⟨_, (), rfl, e3.symm, trivial⟩, hS.F ht⟩) hS.2.2 d_Turtles_onScreen_37

def m_Heap_truth (n : Nat) (g : Nat → Nat) (i : Nat → Int32) (a : Nat → Nat → Int32) (v1 : Int32) : Option (Int32) := if v1 = ((0 : Int32)) then some (i 5) else some (i 4)
set_option maxHeartbeats 4000000 in
set_option maxRecDepth 100000 in
theorem x_Heap_truth (l : Launch) (dC : Nat → ClassId) (dI : Nat → Nat → Nat) (cI : ClassId) (adK adV adA u o g : Nat → Nat) (sz : Nat) (n : Nat) {i : Nat → Int32} {a : Nat → Nat → Int32} {v1 : Int32} {r2 : Int32} (hm : m_Heap_truth n g i a v1 = some r2) : Met l y_Heap_truth w_Heap_truth ({ frames := 0, cells := 0, slots := 0, locals := 0 } : Room) (va_Pc [.ref ((u 1)), .int v1] (xEr dC dI cI adK adV adA u o g i a sz)) (va_Qi (xR r2) xT (xN sz)) 0 0 (xN sz) := by
  refine Met.ofW (cc := b_Heap_truth) (maxL := 2) (ret := (some .int)) (by decide) rfl ?_
  intro p e s m args below meth c s₁ B hml hv
  obtain ⟨rfl, hsz, hP, hK, hE⟩ := hv
  have hx := B.exec
  have hb := B.bytes
  have hr := B.returns
  have hts := atoms_spec (ws := w_Heap_truth) B.pre
  have htt : ∀ w ∈ tw_T, w.before _ s = true := fun w h => hts w (List.mem_cons_of_mem _ h)
  have hown : s.vm.findClass R_Heap = some m.cls := findClass_of_methodNamed B.named
  have hlocks := B.notSynchronized
  subst hsz
  generalize hAe : xN s.heap.size = A at hE ⊢
  have hA : ∀ q : Nat, s.heap.size ≤ q → A q := fun q h => by rw [← hAe]; exact Or.inr h
  have hS : va_S A s.heap s.heap [] := va_S.rf
  have hl := lv_entry ([.ref ((u 1)), .int v1]) (n := 2) (Nat.le_of_ble_eq_true rfl)
  rw [lg_entry_eq]
  generalize (lg_sl ([.ref ((u 1)), .int v1]) ++ List.replicate (2 - (lg_sl ([.ref ((u 1)), .int v1])).length) Slot.unset).toArray = ls at hl ⊢
  have hl : lv_has ls 2 [(0, .ref ((u 1))), (1, .int v1)] := hl
  rw [m_Heap_truth] at hm
  refine lv_iload_n hx hb d_Heap_truth_0 rfl (lv_at hl 1 rfl) ?_
  refine lv_if_eq (tgt := 11) hx hb d_Heap_truth_1 (by decide) (fun c_1 => ?_) (fun c_1 => ?_)
  · replace hm := if_t c_1 hm
    refine lv_aload_n hx hb d_Heap_truth_11 rfl (lv_at hl 0 rfl) ?_
    refine va_get (D := (dC, dI)) (ci := 1) (v := .int (i 5)) (C := R_Heap) (T := F_Heap) (N := 12) hx hb htt iw_Heap hown hK hP 1 xo_1 rfl 2 (Nat.le_of_ble_eq_true rfl) (htt _ lk_Heap_46) (fun _ h9 => h9) xg_1_2 d_Heap_truth_12 ?_
    have e3 := re1 hm
    exact W.iret hx hb hr (fun t9 ht hW => ⟨⟨_, (), rfl, e3.symm, trivial⟩, hS.F ht⟩) hS.2.2 d_Heap_truth_15
  · replace hm := if_f c_1 hm
    refine lv_aload_n hx hb d_Heap_truth_4 rfl (lv_at hl 0 rfl) ?_
    refine va_get (D := (dC, dI)) (ci := 1) (v := .int (i 4)) (C := R_Heap) (T := F_Heap) (N := 12) hx hb htt iw_Heap hown hK hP 1 xo_1 rfl 1 (Nat.le_of_ble_eq_true rfl) (htt _ lk_Heap_41) (fun _ h9 => h9) xg_1_1 d_Heap_truth_5 ?_
    refine lv_goto (tgt := 15) hx hb d_Heap_truth_8 (by decide) ?_
    have e3 := re1 hm
    exact W.iret hx hb hr (fun t9 ht hW => ⟨⟨_, (), rfl, e3.symm, trivial⟩, hS.F ht⟩) hS.2.2 d_Heap_truth_15

def m_Output_begin (n : Nat) (g : Nat → Nat) (i : Nat → Int32) (a : Nat → Nat → Int32)  : Option ((Nat → Int32) × (Nat → Nat → Int32) × Int32) := ob1 (upd i 23 0 : Nat → Int32) (fun i_1 => some (i_1, a, (0 : Int32)))
set_option maxHeartbeats 4000000 in
set_option maxRecDepth 100000 in
theorem x_Output_begin (l : Launch) (dC : Nat → ClassId) (dI : Nat → Nat → Nat) (cI : ClassId) (adK adV adA u o g : Nat → Nat) (sz : Nat) (n : Nat) {i : Nat → Int32} {a : Nat → Nat → Int32}  {i2 : Nat → Int32} {a2 : Nat → Nat → Int32} {r2 : Int32} (hm : m_Output_begin n g i a = some (i2, a2, r2)) : Met l y_Output_begin w_Output_begin ({ frames := 0, cells := 0, slots := 0, locals := 0 } : Room) (va_Pc [.ref ((u 6))] (xE dC dI cI adK adV adA u o g i a sz)) (va_Qv xV (xB dC dI cI u o g i2 a2 (va_A (TW cI u o i a g) sz)) (va_A (TW cI u o i a g) sz)) 0 0 ((va_A (TW cI u o i a g) sz)) := by
  refine Met.ofW (cc := b_Output_begin) (maxL := 1) (ret := none) (by decide) rfl ?_
  intro p e s m args below meth c s₁ B hml hv
  obtain ⟨rfl, hsz, hP, hK, hE, hD0⟩ := hv
  have hx := B.exec
  have hb := B.bytes
  have hr := B.returns
  have hts := atoms_spec (ws := w_Output_begin) B.pre
  have htt : ∀ w ∈ tw_T, w.before _ s = true := fun w h => hts w (List.mem_cons_of_mem _ h)
  have hown : s.vm.findClass R_Output = some m.cls := findClass_of_methodNamed B.named
  have hlocks := B.notSynchronized
  subst hsz
  have hD := hD0.self (sz := s.heap.size)
  generalize hAe : (va_A (TW cI u o i a g) s.heap.size) = A at hD hE ⊢
  have hA : ∀ q : Nat, s.heap.size ≤ q → A q := fun q h => by rw [← hAe]; exact Or.inr h
  have hS : va_S A s.heap s.heap [] := va_S.rf
  have hl := lv_entry ([.ref ((u 6))]) (n := 1) (Nat.le_of_ble_eq_true rfl)
  rw [lg_entry_eq]
  generalize (lg_sl ([.ref ((u 6))]) ++ List.replicate (1 - (lg_sl ([.ref ((u 6))])).length) Slot.unset).toArray = ls at hl ⊢
  have hl : lv_has ls 1 [(0, .ref ((u 6)))] := hl
  rw [m_Output_begin] at hm
  refine lv_aload_n hx hb d_Output_begin_0 rfl (lv_at hl 0 rfl) ?_
  refine lv_iconst (v := 0) hx hb d_Output_begin_1 (by decide) ?_
  refine va_put (D := (dC, dI)) (ci := 6) (v := .int 0) (ty := .int) (C := R_Output) (T := F_Output) (N := 11) hx hb htt iw_Output t_Output t_Output_ok n_Output hown hK hP hD hS 6 xo_6 rfl 8 (Nat.le_of_ble_eq_true rfl) (htt _ lk_Output_31) (fun _ h9 => h9) rfl (by decide +kernel) rfl rfl xl_6_8 d_Output_begin_2 (fun H locs hP hD hS => ?_)
  obtain ⟨i_1, ei_1⟩ : ∃ y9 : Nat → Int32, y9 = upd i 23 0 := ⟨_, rfl⟩
  replace hm := ob1_at ei_1 hm
  obtain ⟨hP, hD⟩ := xw_23 ei_1 hP hD
  obtain ⟨e1i, e1a, e3⟩ := re3 hm
  obtain ⟨hP, hD⟩ := x_eq e1i e1a hP hD
  exact W.vret hx hb hr (fun t9 ht hW => ⟨⟨(), rfl, trivial, by rw [ht]; exact hP, hD⟩, hS.F ht⟩) hS.2.2 d_Output_begin_5

def m_Output_add (n : Nat) (g : Nat → Nat) (i : Nat → Int32) (a : Nat → Nat → Int32) (v1 : Int32) : Option ((Nat → Int32) × (Nat → Nat → Int32) × Int32) := if ((8192 : Int32)) ≤ ((i 23)) then some (i, a, (0 : Int32)) else ck ((i 23)) 8192 (ob1 (sv a 28 (i 23).toNatClampNeg v1 : Nat → Nat → Int32) (fun a_3 => ob1 ((i 23) + 1 : Int32) (fun x_4 => ob1 (upd i 23 x_4 : Nat → Int32) (fun i_5 => some (i_5, a_3, (0 : Int32))))))
set_option maxHeartbeats 4000000 in
set_option maxRecDepth 100000 in
theorem x_Output_add (l : Launch) (dC : Nat → ClassId) (dI : Nat → Nat → Nat) (cI : ClassId) (adK adV adA u o g : Nat → Nat) (sz : Nat) (n : Nat) {i : Nat → Int32} {a : Nat → Nat → Int32} {v1 : Int32} {i2 : Nat → Int32} {a2 : Nat → Nat → Int32} {r2 : Int32} (hm : m_Output_add n g i a v1 = some (i2, a2, r2)) : Met l y_Output_add w_Output_add ({ frames := 0, cells := 0, slots := 0, locals := 0 } : Room) (va_Pc [.ref ((u 6)), .int v1] (xE dC dI cI adK adV adA u o g i a sz)) (va_Qv xV (xB dC dI cI u o g i2 a2 (va_A (TW cI u o i a g) sz)) (va_A (TW cI u o i a g) sz)) 0 0 ((va_A (TW cI u o i a g) sz)) := by
  refine Met.ofW (cc := b_Output_add) (maxL := 2) (ret := none) (by decide) rfl ?_
  intro p e s m args below meth c s₁ B hml hv
  obtain ⟨rfl, hsz, hP, hK, hE, hD0⟩ := hv
  have hx := B.exec
  have hb := B.bytes
  have hr := B.returns
  have hts := atoms_spec (ws := w_Output_add) B.pre
  have htt : ∀ w ∈ tw_T, w.before _ s = true := fun w h => hts w (List.mem_cons_of_mem _ h)
  have hown : s.vm.findClass R_Output = some m.cls := findClass_of_methodNamed B.named
  have hlocks := B.notSynchronized
  subst hsz
  have hD := hD0.self (sz := s.heap.size)
  generalize hAe : (va_A (TW cI u o i a g) s.heap.size) = A at hD hE ⊢
  have hA : ∀ q : Nat, s.heap.size ≤ q → A q := fun q h => by rw [← hAe]; exact Or.inr h
  have hS : va_S A s.heap s.heap [] := va_S.rf
  have hl := lv_entry ([.ref ((u 6)), .int v1]) (n := 2) (Nat.le_of_ble_eq_true rfl)
  rw [lg_entry_eq]
  generalize (lg_sl ([.ref ((u 6)), .int v1]) ++ List.replicate (2 - (lg_sl ([.ref ((u 6)), .int v1])).length) Slot.unset).toArray = ls at hl ⊢
  have hl : lv_has ls 2 [(0, .ref ((u 6))), (1, .int v1)] := hl
  rw [m_Output_add] at hm
  refine lv_aload_n hx hb d_Output_add_0 rfl (lv_at hl 0 rfl) ?_
  refine va_get (D := (dC, dI)) (ci := 6) (v := .int (i 23)) (C := R_Output) (T := F_Output) (N := 11) hx hb htt iw_Output hown hK hP 6 xo_6 rfl 8 (Nat.le_of_ble_eq_true rfl) (htt _ lk_Output_31) (fun _ h9 => h9) xg_6_8 d_Output_add_1 ?_
  refine lv_sipush (v := 8192) hx hb d_Output_add_4 (by decide) ?_
  refine lv_icmp_ge (tgt := 30) hx hb d_Output_add_7 (by decide) (fun c_1 => ?_) (fun c_1 => ?_)
  · replace hm := if_t c_1 hm
    obtain ⟨e1i, e1a, e3⟩ := re3 hm
    obtain ⟨hP, hD⟩ := x_eq e1i e1a hP hD
    exact W.vret hx hb hr (fun t9 ht hW => ⟨⟨(), rfl, trivial, by rw [ht]; exact hP, hD⟩, hS.F ht⟩) hS.2.2 d_Output_add_30
  · replace hm := if_f c_1 hm
    refine lv_aload_n hx hb d_Output_add_10 rfl (lv_at hl 0 rfl) ?_
    refine va_get (D := (dC, dI)) (ci := 6) (v := .ref ((u 38))) (C := R_Output) (T := F_Output) (N := 11) hx hb htt iw_Output hown hK hP 6 xo_6 rfl 7 (Nat.le_of_ble_eq_true rfl) (htt _ lk_Output_18) (fun _ h9 => h9) xg_6_7 d_Output_add_11 ?_
    refine lv_aload_n hx hb d_Output_add_14 rfl (lv_at hl 0 rfl) ?_
    refine va_get (D := (dC, dI)) (ci := 6) (v := .int (i 23)) (C := R_Output) (T := F_Output) (N := 11) hx hb htt iw_Output hown hK hP 6 xo_6 rfl 8 (Nat.le_of_ble_eq_true rfl) (htt _ lk_Output_31) (fun _ h9 => h9) xg_6_8 d_Output_add_15 ?_
    refine lv_iload_n hx hb d_Output_add_18 rfl (lv_at hl 1 rfl) ?_
    obtain ⟨h_2, hm⟩ := ck_some hm
    refine va_iast hx hb hK hP hD hS 40 0 twA_28 rfl h_2 d_Output_add_19 (fun H locs hP hD hS => ?_)
    obtain ⟨a_3, ea_3⟩ : ∃ y9 : Nat → Nat → Int32, y9 = sv a 28 (i 23).toNatClampNeg v1 := ⟨_, rfl⟩
    replace hm := ob1_at ea_3 hm
    obtain ⟨hP, hD⟩ := xv_28 ea_3 hP hD
    refine lv_aload_n hx hb d_Output_add_20 rfl (lv_at hl 0 rfl) ?_
    refine lv_dup hx hb d_Output_add_21 rfl ?_
    refine va_get (D := (dC, dI)) (ci := 6) (v := .int (i 23)) (C := R_Output) (T := F_Output) (N := 11) hx hb htt iw_Output hown hK hP 6 xo_6 rfl 8 (Nat.le_of_ble_eq_true rfl) (htt _ lk_Output_31) (fun _ h9 => h9) xg_6_8 d_Output_add_22 ?_
    refine lv_iconst (v := 1) hx hb d_Output_add_25 (by decide) ?_
    refine lv_iadd hx hb d_Output_add_26 ?_
    refine lv_topi (fun x_4 ex_4 => ?_)
    replace hm := ob1_at ex_4 hm
    refine va_put (D := (dC, dI)) (ci := 6) (v := .int x_4) (ty := .int) (C := R_Output) (T := F_Output) (N := 11) hx hb htt iw_Output t_Output t_Output_ok n_Output hown hK hP hD hS 6 xo_6 rfl 8 (Nat.le_of_ble_eq_true rfl) (htt _ lk_Output_31) (fun _ h9 => h9) rfl (by decide +kernel) rfl rfl xl_6_8 d_Output_add_27 (fun H locs hP hD hS => ?_)
    obtain ⟨i_5, ei_5⟩ : ∃ y9 : Nat → Int32, y9 = upd i 23 x_4 := ⟨_, rfl⟩
    replace hm := ob1_at ei_5 hm
    obtain ⟨hP, hD⟩ := xw_23 ei_5 hP hD
    obtain ⟨e1i, e1a, e3⟩ := re3 hm
    obtain ⟨hP, hD⟩ := x_eq e1i e1a hP hD
    exact W.vret hx hb hr (fun t9 ht hW => ⟨⟨(), rfl, trivial, by rw [ht]; exact hP, hD⟩, hS.F ht⟩) hS.2.2 d_Output_add_30

def m_Line_callAt_b33 (n : Nat) (g : Nat → Nat) (i : Nat → Int32) (a : Nat → Nat → Int32) (rc_9 : Int32 → Int32 → Int32 → Option (Int32)) (v1 : Int32) (v2 : Int32) (v3 : Int32) : Option (Int32) := ob1 (v3 + (-1) : Int32) (fun x_1 => rc_9 v1 v2 x_1)
set_option maxHeartbeats 4000000 in
set_option maxRecDepth 100000 in
theorem lb_Line_callAt_33 (l : Launch) (dC : Nat → ClassId) (dI : Nat → Nat → Nat) (cI : ClassId) (adK adV adA u o g : Nat → Nat) (n : Nat) {p : Program} {e : Env} {s : State} {m : MethodId} {args : Array Value} {below : List Frame} {meth : Method} {c : Code} {A : Nat → Prop} (hx : p.tables.exec = Jvm.exec) (hb : c.code = b_Line_callAt) (hml : c.maxLocals = 4) (hown : s.vm.findClass R_Line = some m.cls) (hts : ∀ w ∈ w_Line_callAt, w.before args s = true) (hK : va_K (dC, dI) classes [(cI, .int)] s) (hE : tw_E adK adV adA A s s.heap) (hA : ∀ q : Nat, s.heap.size ≤ q → A q) (hr : meth.sig.returnType = (some .int)) (hlocks : meth.locks = false) {i : Nat → Int32} {a : Nat → Nat → Int32} {r2 : Int32} (rc_9 : Int32 → Int32 → Int32 → Option (Int32)) (Hrc_9 : ∀ (v1 : Int32) (v2 : Int32) (v3 : Int32), rc_9 v1 v2 v3 = some r2 → ∀ (H : Heap) (locs : List Loc) (ls : Array Slot), va_P (dC, dI) classes (TW cI u o i a g) H → va_S A s.heap H locs → lv_has ls 4 [(0, .ref ((u 8))), (1, .int v1), (2, .int v2), (3, .int v3)] → W p l e ({ frames := 0, cells := 0, slots := 0, locals := 0 } : Room) s m args below meth c H locs 0 0 (MQ below (va_Qi (xR r2) xT A) args s 0 0 A) (F0 m 9 ls [])) (v1 : Int32) (v2 : Int32) (v3 : Int32) (hm : m_Line_callAt_b33 n g i a rc_9 v1 v2 v3 = some r2) : ∀ (H : Heap) (locs : List Loc) (ls : Array Slot), va_P (dC, dI) classes (TW cI u o i a g) H → va_S A s.heap H locs → lv_has ls 4 [(0, .ref ((u 8))), (1, .int v1), (2, .int v2), (3, .int v3)] → W p l e ({ frames := 0, cells := 0, slots := 0, locals := 0 } : Room) s m args below meth c H locs 0 0 (MQ below (va_Qi (xR r2) xT A) args s 0 0 A) (F0 m 33 ls []) := by
  have htt : ∀ w ∈ tw_T, w.before _ s = true := fun w h => hts w (List.mem_cons_of_mem _ h)
  intro H locs ls hP hS hl
  rw [m_Line_callAt_b33] at hm
  obtain ⟨x_1, ex_1⟩ : ∃ y9 : Int32, y9 = v3 + (-1) := ⟨_, rfl⟩
  replace hm := ob1_at ex_1 hm
  refine lv_iinc (v := x_1) (lv' := [(3, .int x_1), (0, .ref ((u 8))), (1, .int v1), (2, .int v2)]) hx hb d_Line_callAt_33 hl (k := 3) rfl (by rw [ex_1]; rfl) (by decide) rfl (fun ls hl => ?_)
  refine lv_goto (tgt := 9) hx hb d_Line_callAt_36 (by decide) ?_
  exact Hrc_9 _ _ _ hm _ _ _ hP hS (lv_sub hl [1, 2, 3, 0] rfl)
def m_Line_callAt_b9 (n : Nat) (g : Nat → Nat) (i : Nat → Int32) (a : Nat → Nat → Int32) : Nat → Int32 → Int32 → Int32 → Option (Int32)
  | 0, _, _, _ => none
  | f + 1, v1, v2, v3 => if v3 < ((0 : Int32)) then some ((-1)) else ck v3 150 (if ((a 37 v3.toNatClampNeg)) = ((1 : Int32)) then if v2 = v1 then some v3 else ob1 (v2 + 1 : Int32) (fun x_5 => m_Line_callAt_b33 n g i a (m_Line_callAt_b9 n g i a f) v1 x_5 v3) else m_Line_callAt_b33 n g i a (m_Line_callAt_b9 n g i a f) v1 v2 v3)
set_option maxHeartbeats 4000000 in
set_option maxRecDepth 100000 in
theorem lb_Line_callAt_9 (l : Launch) (dC : Nat → ClassId) (dI : Nat → Nat → Nat) (cI : ClassId) (adK adV adA u o g : Nat → Nat) (n : Nat) {p : Program} {e : Env} {s : State} {m : MethodId} {args : Array Value} {below : List Frame} {meth : Method} {c : Code} {A : Nat → Prop} (hx : p.tables.exec = Jvm.exec) (hb : c.code = b_Line_callAt) (hml : c.maxLocals = 4) (hown : s.vm.findClass R_Line = some m.cls) (hts : ∀ w ∈ w_Line_callAt, w.before args s = true) (hK : va_K (dC, dI) classes [(cI, .int)] s) (hE : tw_E adK adV adA A s s.heap) (hA : ∀ q : Nat, s.heap.size ≤ q → A q) (hr : meth.sig.returnType = (some .int)) (hlocks : meth.locks = false) {i : Nat → Int32} {a : Nat → Nat → Int32} {r2 : Int32} : ∀ (f : Nat) (v1 : Int32) (v2 : Int32) (v3 : Int32), m_Line_callAt_b9 n g i a f v1 v2 v3 = some r2 → ∀ (H : Heap) (locs : List Loc) (ls : Array Slot), va_P (dC, dI) classes (TW cI u o i a g) H → va_S A s.heap H locs → lv_has ls 4 [(0, .ref ((u 8))), (1, .int v1), (2, .int v2), (3, .int v3)] → W p l e ({ frames := 0, cells := 0, slots := 0, locals := 0 } : Room) s m args below meth c H locs 0 0 (MQ below (va_Qi (xR r2) xT A) args s 0 0 A) (F0 m 9 ls []) := by
  have htt : ∀ w ∈ tw_T, w.before _ s = true := fun w h => hts w (List.mem_cons_of_mem _ h)
  intro f
  induction f with
  | zero =>
    intro v1 v2 v3 hm
    rw [m_Line_callAt_b9] at hm
    cases hm
  | succ f ih =>
    intro v1 v2 v3 hm H locs ls hP hS hl
    rw [m_Line_callAt_b9] at hm
    refine lv_iload_n hx hb d_Line_callAt_9 rfl (lv_at hl 3 rfl) ?_
    refine lv_if_lt (tgt := 39) hx hb d_Line_callAt_10 (by decide) (fun c_1 => ?_) (fun c_1 => ?_)
    · replace hm := if_t c_1 hm
      refine lv_iconst (v := -1) hx hb d_Line_callAt_39 (by decide) ?_
      have e3 := re1 hm
      exact W.iret hx hb hr (fun t9 ht hW => ⟨⟨_, (), rfl, e3.symm, trivial⟩, hS.F ht⟩) hS.2.2 d_Line_callAt_40
    · replace hm := if_f c_1 hm
      refine lv_aload_n hx hb d_Line_callAt_13 rfl (lv_at hl 0 rfl) ?_
      refine va_get (D := (dC, dI)) (ci := 8) (v := .ref ((u 47))) (C := R_Line) (T := F_Line) (N := 18) hx hb htt iw_Line hown hK hP 8 xo_8 rfl 8 (Nat.le_of_ble_eq_true rfl) (htt _ lk_Line_9) (fun _ h9 => h9) xg_8_8 d_Line_callAt_14 ?_
      refine lv_iload_n hx hb d_Line_callAt_17 rfl (lv_at hl 3 rfl) ?_
      obtain ⟨h_2, hm⟩ := ck_some hm
      refine va_iald hx hb hK hP 49 0 twA_37 rfl h_2 d_Line_callAt_18 ?_
      refine lv_iconst (v := 1) hx hb d_Line_callAt_19 (by decide) ?_
      refine lv_icmp_ne (tgt := 33) hx hb d_Line_callAt_20 (by decide) (fun c_3 => ?_) (fun c_3 => ?_)
      · replace hm := if_f c_3 hm
        exact lb_Line_callAt_33 l dC dI cI adK adV adA u o g n hx hb hml hown hts hK hE hA hr hlocks (m_Line_callAt_b9 n g i a f) ih _ _ _ hm _ _ _ hP hS (lv_sub hl [0, 1, 2, 3] rfl)
      · replace hm := if_t c_3 hm
        refine lv_iload_n hx hb d_Line_callAt_23 rfl (lv_at hl 2 rfl) ?_
        refine lv_iload_n hx hb d_Line_callAt_24 rfl (lv_at hl 1 rfl) ?_
        refine lv_icmp_ne (tgt := 30) hx hb d_Line_callAt_25 (by decide) (fun c_4 => ?_) (fun c_4 => ?_)
        · replace hm := if_f c_4 hm
          obtain ⟨x_5, ex_5⟩ : ∃ y9 : Int32, y9 = v2 + 1 := ⟨_, rfl⟩
          replace hm := ob1_at ex_5 hm
          refine lv_iinc (v := x_5) (lv' := [(2, .int x_5), (0, .ref ((u 8))), (1, .int v1), (3, .int v3)]) hx hb d_Line_callAt_30 hl (k := 2) rfl (by rw [ex_5]; rfl) (by decide) rfl (fun ls hl => ?_)
          exact lb_Line_callAt_33 l dC dI cI adK adV adA u o g n hx hb hml hown hts hK hE hA hr hlocks (m_Line_callAt_b9 n g i a f) ih _ _ _ hm _ _ _ hP hS (lv_sub hl [1, 2, 0, 3] rfl)
        · replace hm := if_t c_4 hm
          refine lv_iload_n hx hb d_Line_callAt_28 rfl (lv_at hl 3 rfl) ?_
          have e3 := re1 hm
          exact W.iret hx hb hr (fun t9 ht hW => ⟨⟨_, (), rfl, e3.symm, trivial⟩, hS.F ht⟩) hS.2.2 d_Line_callAt_29
def m_Line_callAt (n : Nat) (g : Nat → Nat) (i : Nat → Int32) (a : Nat → Nat → Int32) (v1 : Int32) : Option (Int32) := ob1 ((i 40) - 1 : Int32) (fun x_1 => m_Line_callAt_b9 n g i a n v1 (0 : Int32) x_1)
set_option maxHeartbeats 4000000 in
set_option maxRecDepth 100000 in
theorem x_Line_callAt (l : Launch) (dC : Nat → ClassId) (dI : Nat → Nat → Nat) (cI : ClassId) (adK adV adA u o g : Nat → Nat) (sz : Nat) (n : Nat) {i : Nat → Int32} {a : Nat → Nat → Int32} {v1 : Int32} {r2 : Int32} (hm : m_Line_callAt n g i a v1 = some r2) : Met l y_Line_callAt w_Line_callAt ({ frames := 0, cells := 0, slots := 0, locals := 0 } : Room) (va_Pc [.ref ((u 8)), .int v1] (xEr dC dI cI adK adV adA u o g i a sz)) (va_Qi (xR r2) xT (xN sz)) 0 0 (xN sz) := by
  refine Met.ofW (cc := b_Line_callAt) (maxL := 4) (ret := (some .int)) (by decide) rfl ?_
  intro p e s m args below meth c s₁ B hml hv
  obtain ⟨rfl, hsz, hP, hK, hE⟩ := hv
  have hx := B.exec
  have hb := B.bytes
  have hr := B.returns
  have hts := atoms_spec (ws := w_Line_callAt) B.pre
  have htt : ∀ w ∈ tw_T, w.before _ s = true := fun w h => hts w (List.mem_cons_of_mem _ h)
  have hown : s.vm.findClass R_Line = some m.cls := findClass_of_methodNamed B.named
  have hlocks := B.notSynchronized
  subst hsz
  generalize hAe : xN s.heap.size = A at hE ⊢
  have hA : ∀ q : Nat, s.heap.size ≤ q → A q := fun q h => by rw [← hAe]; exact Or.inr h
  have hS : va_S A s.heap s.heap [] := va_S.rf
  have hl := lv_entry ([.ref ((u 8)), .int v1]) (n := 4) (Nat.le_of_ble_eq_true rfl)
  rw [lg_entry_eq]
  generalize (lg_sl ([.ref ((u 8)), .int v1]) ++ List.replicate (4 - (lg_sl ([.ref ((u 8)), .int v1])).length) Slot.unset).toArray = ls at hl ⊢
  have hl : lv_has ls 4 [(0, .ref ((u 8))), (1, .int v1)] := hl
  rw [m_Line_callAt] at hm
  refine lv_iconst (v := 0) hx hb d_Line_callAt_0 (by decide) ?_
  refine lv_istore_n (lv' := [(2, .int 0), (0, .ref ((u 8))), (1, .int v1)]) hx hb d_Line_callAt_1 rfl hl (by decide) rfl (fun ls hl => ?_)
  refine lv_aload_n hx hb d_Line_callAt_2 rfl (lv_at hl 1 rfl) ?_
  refine va_get (D := (dC, dI)) (ci := 8) (v := .int (i 40)) (C := R_Line) (T := F_Line) (N := 18) hx hb htt iw_Line hown hK hP 8 xo_8 rfl 6 (Nat.le_of_ble_eq_true rfl) (htt _ lk_Line_62) (fun _ h9 => h9) xg_8_6 d_Line_callAt_3 ?_
  refine lv_iconst (v := 1) hx hb d_Line_callAt_6 (by decide) ?_
  refine lv_isub hx hb d_Line_callAt_7 ?_
  refine lv_topi (fun x_1 ex_1 => ?_)
  replace hm := ob1_at ex_1 hm
  refine lv_istore_n (lv' := [(3, .int x_1), (2, .int 0), (0, .ref ((u 8))), (1, .int v1)]) hx hb d_Line_callAt_8 rfl hl (by decide) rfl (fun ls hl => ?_)
  exact lb_Line_callAt_9 l dC dI cI adK adV adA u o g n hx hb hml hown hts hK hE hA hr hlocks n _ _ _ hm _ _ _ hP hS (lv_sub hl [2, 3, 1, 0] rfl)

def m_Output_send_b48 (n : Nat) (g : Nat → Nat) (rc_2 : (Nat → Int32) → (Nat → Nat → Int32) → Int32 → Option ((Nat → Int32) × (Nat → Nat → Int32) × Int32)) (i : Nat → Int32) (a : Nat → Nat → Int32) (v1 : Int32) (s0 : Int32) : Option ((Nat → Int32) × (Nat → Nat → Int32) × Int32) := ob1 (upd i 19 s0 : Nat → Int32) (fun i_1 => ob0 (m_Math_min n ((i_1 20) + 1) (2000 : Int32)) (fun r_3 => ob1 (upd i_1 20 r_3 : Nat → Int32) (fun i_4 => ob1 (v1 + 1 : Int32) (fun x_5 => rc_2 i_4 a x_5))))
set_option maxHeartbeats 4000000 in
set_option maxRecDepth 100000 in
theorem lb_Output_send_48 (l : Launch) (dC : Nat → ClassId) (dI : Nat → Nat → Nat) (cI : ClassId) (adK adV adA u o g : Nat → Nat) (n : Nat) {p : Program} {e : Env} {s : State} {m : MethodId} {args : Array Value} {below : List Frame} {meth : Method} {c : Code} {A : Nat → Prop} (hx : p.tables.exec = Jvm.exec) (hb : c.code = b_Output_send) (hml : c.maxLocals = 2) (hown : s.vm.findClass R_Output = some m.cls) (hts : ∀ w ∈ w_Output_send, w.before args s = true) (hK : va_K (dC, dI) classes [(cI, .int)] s) (hE : tw_E adK adV adA A s s.heap) (hA : ∀ q : Nat, s.heap.size ≤ q → A q) (hr : meth.sig.returnType = none) (hlocks : meth.locks = false) {i2 : Nat → Int32} {a2 : Nat → Nat → Int32} {r2 : Int32} (rc_2 : (Nat → Int32) → (Nat → Nat → Int32) → Int32 → Option ((Nat → Int32) × (Nat → Nat → Int32) × Int32)) (Hrc_2 : ∀ (i : Nat → Int32) (a : Nat → Nat → Int32) (v1 : Int32), rc_2 i a v1 = some (i2, a2, r2) → ∀ (H : Heap) (locs : List Loc) (ls : Array Slot), va_P (dC, dI) classes (TW cI u o i a g) H → va_D A (TW cI u o i a g) → va_S A s.heap H locs → lv_has ls 2 [(0, .ref ((u 6))), (1, .int v1)] → W p l e ({ frames := 1, cells := 0, slots := 0, locals := 21 } : Room) s m args below meth c H locs 0 0 (MQ below (va_Qv xV (xB dC dI cI u o g i2 a2 A) A) args s 0 0 A) (F0 m 2 ls [])) (i : Nat → Int32) (a : Nat → Nat → Int32) (v1 : Int32) (s0 : Int32) (hm : m_Output_send_b48 n g rc_2 i a v1 s0 = some (i2, a2, r2)) : ∀ (H : Heap) (locs : List Loc) (ls : Array Slot), va_P (dC, dI) classes (TW cI u o i a g) H → va_D A (TW cI u o i a g) → va_S A s.heap H locs → lv_has ls 2 [(0, .ref ((u 6))), (1, .int v1)] → W p l e ({ frames := 1, cells := 0, slots := 0, locals := 21 } : Room) s m args below meth c H locs 0 0 (MQ below (va_Qv xV (xB dC dI cI u o g i2 a2 A) A) args s 0 0 A) (F0 m 48 ls [.int s0, .ref ((u 6))]) := by
  have htt : ∀ w ∈ tw_T, w.before _ s = true := fun w h => hts w (List.mem_cons_of_mem _ h)
  intro H locs ls hP hD hS hl
  rw [m_Output_send_b48] at hm
  refine va_put (D := (dC, dI)) (ci := 6) (v := .int s0) (ty := .int) (C := R_Output) (T := F_Output) (N := 11) hx hb htt iw_Output t_Output t_Output_ok n_Output hown hK hP hD hS 6 xo_6 rfl 2 (Nat.le_of_ble_eq_true rfl) (htt _ lk_Output_61) (fun _ h9 => h9) rfl (by decide +kernel) rfl rfl xl_6_2 d_Output_send_48 (fun H locs hP hD hS => ?_)
  obtain ⟨i_1, ei_1⟩ : ∃ y9 : Nat → Int32, y9 = upd i 19 s0 := ⟨_, rfl⟩
  replace hm := ob1_at ei_1 hm
  obtain ⟨hP, hD⟩ := xw_19 ei_1 hP hD
  refine lv_aload_n hx hb d_Output_send_51 rfl (lv_at hl 0 rfl) ?_
  refine lv_aload_n hx hb d_Output_send_52 rfl (lv_at hl 0 rfl) ?_
  refine va_get (D := (dC, dI)) (ci := 6) (v := .int (i_1 20)) (C := R_Output) (T := F_Output) (N := 11) hx hb htt iw_Output hown hK hP 6 xo_6 rfl 3 (Nat.le_of_ble_eq_true rfl) (htt _ lk_Output_64) (fun _ h9 => h9) xg_6_3 d_Output_send_53 ?_
  refine lv_iconst (v := 1) hx hb d_Output_send_56 (by decide) ?_
  refine lv_iadd hx hb d_Output_send_57 ?_
  refine lv_sipush (v := 2000) hx hb d_Output_send_58 (by decide) ?_
  obtain ⟨r_3, h_2, hm⟩ := ob0_some hm
  have hFc := x_free0 hS hA
  refine va_calli (va_runS (As := [.int ((i_1 20) + 1), .int 2000]) (rest := [.ref ((u 6))]) ⟨hx, hb, hml, hown, hts⟩ (x_Math_min l H.size n h_2) (va_cwS 2 hts (tw_GS tw_cons cw_Math_min lk_Output_67 st_Math_min ini_Math) rfl rfl rfl hd_Math_min ⟨Nat.le_of_ble_eq_true rfl, Nat.le_of_ble_eq_true rfl⟩) xpS0 rfl rfl hl.1 rfl (lv_room (Nat.le_of_ble_eq_true rfl)) d_Output_send_61 ⟨Nat.le_of_ble_eq_true rfl, Nat.le_of_ble_eq_true rfl⟩) hS (fun q _ h => hFc q h) hFc (fun r9 u9 t9 H locs ht hvm e9 hB hz1 hk1 hS => ?_)
  have e9 : r_3 = r9 := e9
  subst e9
  replace hP := x_keep hP hk1
  clear hFc hk1 hz1 hvm hB ht
  refine va_put (D := (dC, dI)) (ci := 6) (v := .int r_3) (ty := .int) (C := R_Output) (T := F_Output) (N := 11) hx hb htt iw_Output t_Output t_Output_ok n_Output hown hK hP hD hS 6 xo_6 rfl 3 (Nat.le_of_ble_eq_true rfl) (htt _ lk_Output_64) (fun _ h9 => h9) rfl (by decide +kernel) rfl rfl xl_6_3 d_Output_send_64 (fun H locs hP hD hS => ?_)
  obtain ⟨i_4, ei_4⟩ : ∃ y9 : Nat → Int32, y9 = upd i_1 20 r_3 := ⟨_, rfl⟩
  replace hm := ob1_at ei_4 hm
  obtain ⟨hP, hD⟩ := xw_20 ei_4 hP hD
  obtain ⟨x_5, ex_5⟩ : ∃ y9 : Int32, y9 = v1 + 1 := ⟨_, rfl⟩
  replace hm := ob1_at ex_5 hm
  refine lv_iinc (v := x_5) (lv' := [(1, .int x_5), (0, .ref ((u 6)))]) hx hb d_Output_send_67 hl (k := 1) rfl (by rw [ex_5]; rfl) (by decide) rfl (fun ls hl => ?_)
  refine lv_goto (tgt := 2) hx hb d_Output_send_70 (by decide) ?_
  exact Hrc_2 _ _ _ hm _ _ _ hP hD hS (lv_sub hl [1, 0] rfl)
def m_Output_send_b2 (n : Nat) (g : Nat → Nat) : Nat → (Nat → Int32) → (Nat → Nat → Int32) → Int32 → Option ((Nat → Int32) × (Nat → Nat → Int32) × Int32)
  | 0, _, _, _ => none
  | f + 1, i, a, v1 => if ((i 23)) ≤ v1 then some (i, a, (0 : Int32)) else ck v1 8192 (ck ((i 19)) 2000 (ob1 (sv a 26 (i 19).toNatClampNeg (a 28 v1.toNatClampNeg) : Nat → Nat → Int32) (fun a_4 => if ((2000 : Int32)) ≤ (((i 19) + 1)) then m_Output_send_b48 n g (m_Output_send_b2 n g f) i a_4 v1 (0 : Int32) else m_Output_send_b48 n g (m_Output_send_b2 n g f) i a_4 v1 ((i 19) + 1))))
set_option maxHeartbeats 4000000 in
set_option maxRecDepth 100000 in
theorem lb_Output_send_2 (l : Launch) (dC : Nat → ClassId) (dI : Nat → Nat → Nat) (cI : ClassId) (adK adV adA u o g : Nat → Nat) (n : Nat) {p : Program} {e : Env} {s : State} {m : MethodId} {args : Array Value} {below : List Frame} {meth : Method} {c : Code} {A : Nat → Prop} (hx : p.tables.exec = Jvm.exec) (hb : c.code = b_Output_send) (hml : c.maxLocals = 2) (hown : s.vm.findClass R_Output = some m.cls) (hts : ∀ w ∈ w_Output_send, w.before args s = true) (hK : va_K (dC, dI) classes [(cI, .int)] s) (hE : tw_E adK adV adA A s s.heap) (hA : ∀ q : Nat, s.heap.size ≤ q → A q) (hr : meth.sig.returnType = none) (hlocks : meth.locks = false) {i2 : Nat → Int32} {a2 : Nat → Nat → Int32} {r2 : Int32} : ∀ (f : Nat) (i : Nat → Int32) (a : Nat → Nat → Int32) (v1 : Int32), m_Output_send_b2 n g f i a v1 = some (i2, a2, r2) → ∀ (H : Heap) (locs : List Loc) (ls : Array Slot), va_P (dC, dI) classes (TW cI u o i a g) H → va_D A (TW cI u o i a g) → va_S A s.heap H locs → lv_has ls 2 [(0, .ref ((u 6))), (1, .int v1)] → W p l e ({ frames := 1, cells := 0, slots := 0, locals := 21 } : Room) s m args below meth c H locs 0 0 (MQ below (va_Qv xV (xB dC dI cI u o g i2 a2 A) A) args s 0 0 A) (F0 m 2 ls []) := by
  have htt : ∀ w ∈ tw_T, w.before _ s = true := fun w h => hts w (List.mem_cons_of_mem _ h)
  intro f
  induction f with
  | zero =>
    intro i a v1 hm
    rw [m_Output_send_b2] at hm
    cases hm
  | succ f ih =>
    intro i a v1 hm H locs ls hP hD hS hl
    rw [m_Output_send_b2] at hm
    refine lv_iload_n hx hb d_Output_send_2 rfl (lv_at hl 1 rfl) ?_
    refine lv_aload_n hx hb d_Output_send_3 rfl (lv_at hl 0 rfl) ?_
    refine va_get (D := (dC, dI)) (ci := 6) (v := .int (i 23)) (C := R_Output) (T := F_Output) (N := 11) hx hb htt iw_Output hown hK hP 6 xo_6 rfl 8 (Nat.le_of_ble_eq_true rfl) (htt _ lk_Output_31) (fun _ h9 => h9) xg_6_8 d_Output_send_4 ?_
    refine lv_icmp_ge (tgt := 73) hx hb d_Output_send_7 (by decide) (fun c_1 => ?_) (fun c_1 => ?_)
    · replace hm := if_t c_1 hm
      obtain ⟨e1i, e1a, e3⟩ := re3 hm
      obtain ⟨hP, hD⟩ := x_eq e1i e1a hP hD
      exact W.vret hx hb hr (fun t9 ht hW => ⟨⟨(), rfl, trivial, by rw [ht]; exact hP, hD⟩, hS.F ht⟩) hS.2.2 d_Output_send_73
    · replace hm := if_f c_1 hm
      refine lv_aload_n hx hb d_Output_send_10 rfl (lv_at hl 0 rfl) ?_
      refine va_get (D := (dC, dI)) (ci := 6) (v := .ref ((u 36))) (C := R_Output) (T := F_Output) (N := 11) hx hb htt iw_Output hown hK hP 6 xo_6 rfl 1 (Nat.le_of_ble_eq_true rfl) (htt _ lk_Output_11) (fun _ h9 => h9) xg_6_1 d_Output_send_11 ?_
      refine lv_aload_n hx hb d_Output_send_14 rfl (lv_at hl 0 rfl) ?_
      refine va_get (D := (dC, dI)) (ci := 6) (v := .int (i 19)) (C := R_Output) (T := F_Output) (N := 11) hx hb htt iw_Output hown hK hP 6 xo_6 rfl 2 (Nat.le_of_ble_eq_true rfl) (htt _ lk_Output_61) (fun _ h9 => h9) xg_6_2 d_Output_send_15 ?_
      refine lv_aload_n hx hb d_Output_send_18 rfl (lv_at hl 0 rfl) ?_
      refine va_get (D := (dC, dI)) (ci := 6) (v := .ref ((u 38))) (C := R_Output) (T := F_Output) (N := 11) hx hb htt iw_Output hown hK hP 6 xo_6 rfl 7 (Nat.le_of_ble_eq_true rfl) (htt _ lk_Output_18) (fun _ h9 => h9) xg_6_7 d_Output_send_19 ?_
      refine lv_iload_n hx hb d_Output_send_22 rfl (lv_at hl 1 rfl) ?_
      obtain ⟨h_2, hm⟩ := ck_some hm
      refine va_iald hx hb hK hP 40 0 twA_28 rfl h_2 d_Output_send_23 ?_
      obtain ⟨h_3, hm⟩ := ck_some hm
      refine va_iast hx hb hK hP hD hS 38 0 twA_26 rfl h_3 d_Output_send_24 (fun H locs hP hD hS => ?_)
      obtain ⟨a_4, ea_4⟩ : ∃ y9 : Nat → Nat → Int32, y9 = sv a 26 (i 19).toNatClampNeg (a 28 v1.toNatClampNeg) := ⟨_, rfl⟩
      replace hm := ob1_at ea_4 hm
      obtain ⟨hP, hD⟩ := xv_26 ea_4 hP hD
      refine lv_aload_n hx hb d_Output_send_25 rfl (lv_at hl 0 rfl) ?_
      refine lv_aload_n hx hb d_Output_send_26 rfl (lv_at hl 0 rfl) ?_
      refine va_get (D := (dC, dI)) (ci := 6) (v := .int (i 19)) (C := R_Output) (T := F_Output) (N := 11) hx hb htt iw_Output hown hK hP 6 xo_6 rfl 2 (Nat.le_of_ble_eq_true rfl) (htt _ lk_Output_61) (fun _ h9 => h9) xg_6_2 d_Output_send_27 ?_
      refine lv_iconst (v := 1) hx hb d_Output_send_30 (by decide) ?_
      refine lv_iadd hx hb d_Output_send_31 ?_
      refine lv_sipush (v := 2000) hx hb d_Output_send_32 (by decide) ?_
      refine lv_icmp_ge (tgt := 47) hx hb d_Output_send_35 (by decide) (fun c_5 => ?_) (fun c_5 => ?_)
      · replace hm := if_t c_5 hm
        refine lv_iconst (v := 0) hx hb d_Output_send_47 (by decide) ?_
        exact lb_Output_send_48 l dC dI cI adK adV adA u o g n hx hb hml hown hts hK hE hA hr hlocks (m_Output_send_b2 n g f) ih _ _ _ _ hm _ _ _ hP hD hS (lv_sub hl [0, 1] rfl)
      · replace hm := if_f c_5 hm
        refine lv_aload_n hx hb d_Output_send_38 rfl (lv_at hl 0 rfl) ?_
        refine va_get (D := (dC, dI)) (ci := 6) (v := .int (i 19)) (C := R_Output) (T := F_Output) (N := 11) hx hb htt iw_Output hown hK hP 6 xo_6 rfl 2 (Nat.le_of_ble_eq_true rfl) (htt _ lk_Output_61) (fun _ h9 => h9) xg_6_2 d_Output_send_39 ?_
        refine lv_iconst (v := 1) hx hb d_Output_send_42 (by decide) ?_
        refine lv_iadd hx hb d_Output_send_43 ?_
        refine lv_goto (tgt := 48) hx hb d_Output_send_44 (by decide) ?_
        exact lb_Output_send_48 l dC dI cI adK adV adA u o g n hx hb hml hown hts hK hE hA hr hlocks (m_Output_send_b2 n g f) ih _ _ _ _ hm _ _ _ hP hD hS (lv_sub hl [0, 1] rfl)
def m_Output_send (n : Nat) (g : Nat → Nat) (i : Nat → Int32) (a : Nat → Nat → Int32)  : Option ((Nat → Int32) × (Nat → Nat → Int32) × Int32) := m_Output_send_b2 n g n i a (0 : Int32)
set_option maxHeartbeats 4000000 in
set_option maxRecDepth 100000 in
theorem x_Output_send (l : Launch) (dC : Nat → ClassId) (dI : Nat → Nat → Nat) (cI : ClassId) (adK adV adA u o g : Nat → Nat) (sz : Nat) (n : Nat) {i : Nat → Int32} {a : Nat → Nat → Int32}  {i2 : Nat → Int32} {a2 : Nat → Nat → Int32} {r2 : Int32} (hm : m_Output_send n g i a = some (i2, a2, r2)) : Met l y_Output_send w_Output_send ({ frames := 1, cells := 0, slots := 0, locals := 21 } : Room) (va_Pc [.ref ((u 6))] (xE dC dI cI adK adV adA u o g i a sz)) (va_Qv xV (xB dC dI cI u o g i2 a2 (va_A (TW cI u o i a g) sz)) (va_A (TW cI u o i a g) sz)) 0 0 ((va_A (TW cI u o i a g) sz)) := by
  refine Met.ofW (cc := b_Output_send) (maxL := 2) (ret := none) (by decide) rfl ?_
  intro p e s m args below meth c s₁ B hml hv
  obtain ⟨rfl, hsz, hP, hK, hE, hD0⟩ := hv
  have hx := B.exec
  have hb := B.bytes
  have hr := B.returns
  have hts := atoms_spec (ws := w_Output_send) B.pre
  have htt : ∀ w ∈ tw_T, w.before _ s = true := fun w h => hts w (List.mem_cons_of_mem _ h)
  have hown : s.vm.findClass R_Output = some m.cls := findClass_of_methodNamed B.named
  have hlocks := B.notSynchronized
  subst hsz
  have hD := hD0.self (sz := s.heap.size)
  generalize hAe : (va_A (TW cI u o i a g) s.heap.size) = A at hD hE ⊢
  have hA : ∀ q : Nat, s.heap.size ≤ q → A q := fun q h => by rw [← hAe]; exact Or.inr h
  have hS : va_S A s.heap s.heap [] := va_S.rf
  have hl := lv_entry ([.ref ((u 6))]) (n := 2) (Nat.le_of_ble_eq_true rfl)
  rw [lg_entry_eq]
  generalize (lg_sl ([.ref ((u 6))]) ++ List.replicate (2 - (lg_sl ([.ref ((u 6))])).length) Slot.unset).toArray = ls at hl ⊢
  have hl : lv_has ls 2 [(0, .ref ((u 6)))] := hl
  rw [m_Output_send] at hm
  refine lv_iconst (v := 0) hx hb d_Output_send_0 (by decide) ?_
  refine lv_istore_n (lv' := [(1, .int 0), (0, .ref ((u 6)))]) hx hb d_Output_send_1 rfl hl (by decide) rfl (fun ls hl => ?_)
  exact lb_Output_send_2 l dC dI cI adK adV adA u o g n hx hb hml hown hts hK hE hA hr hlocks n _ _ _ hm _ _ _ hP hD hS (lv_sub hl [1, 0] rfl)

def m_Line_newest_b7 (n : Nat) (g : Nat → Nat) (i : Nat → Int32) (a : Nat → Nat → Int32) : Nat → Int32 → Int32 → Int32 → Option (Int32)
  | 0, _, _, _ => none
  | f + 1, v1, v2, v3 => if v3 < ((0 : Int32)) then some ((-1)) else ck v3 150 (if ((a 37 v3.toNatClampNeg)) = ((1 : Int32)) then some ((-1)) else ck v3 150 (if ((a 37 v3.toNatClampNeg)) = v1 then some v3 else ck v3 150 (if ((a 37 v3.toNatClampNeg)) = v2 then some v3 else ob1 (v3 + (-1) : Int32) (fun x_8 => m_Line_newest_b7 n g i a f v1 v2 x_8))))
set_option maxHeartbeats 4000000 in
set_option maxRecDepth 100000 in
theorem lb_Line_newest_7 (l : Launch) (dC : Nat → ClassId) (dI : Nat → Nat → Nat) (cI : ClassId) (adK adV adA u o g : Nat → Nat) (n : Nat) {p : Program} {e : Env} {s : State} {m : MethodId} {args : Array Value} {below : List Frame} {meth : Method} {c : Code} {A : Nat → Prop} (hx : p.tables.exec = Jvm.exec) (hb : c.code = b_Line_newest) (hml : c.maxLocals = 4) (hown : s.vm.findClass R_Line = some m.cls) (hts : ∀ w ∈ w_Line_newest, w.before args s = true) (hK : va_K (dC, dI) classes [(cI, .int)] s) (hE : tw_E adK adV adA A s s.heap) (hA : ∀ q : Nat, s.heap.size ≤ q → A q) (hr : meth.sig.returnType = (some .int)) (hlocks : meth.locks = false) {i : Nat → Int32} {a : Nat → Nat → Int32} {r2 : Int32} : ∀ (f : Nat) (v1 : Int32) (v2 : Int32) (v3 : Int32), m_Line_newest_b7 n g i a f v1 v2 v3 = some r2 → ∀ (H : Heap) (locs : List Loc) (ls : Array Slot), va_P (dC, dI) classes (TW cI u o i a g) H → va_S A s.heap H locs → lv_has ls 4 [(0, .ref ((u 8))), (1, .int v1), (2, .int v2), (3, .int v3)] → W p l e ({ frames := 0, cells := 0, slots := 0, locals := 0 } : Room) s m args below meth c H locs 0 0 (MQ below (va_Qi (xR r2) xT A) args s 0 0 A) (F0 m 7 ls []) := by
  have htt : ∀ w ∈ tw_T, w.before _ s = true := fun w h => hts w (List.mem_cons_of_mem _ h)
  intro f
  induction f with
  | zero =>
    intro v1 v2 v3 hm
    rw [m_Line_newest_b7] at hm
    cases hm
  | succ f ih =>
    intro v1 v2 v3 hm H locs ls hP hS hl
    rw [m_Line_newest_b7] at hm
    refine lv_iload_n hx hb d_Line_newest_7 rfl (lv_at hl 3 rfl) ?_
    refine lv_if_lt (tgt := 49) hx hb d_Line_newest_8 (by decide) (fun c_1 => ?_) (fun c_1 => ?_)
    · replace hm := if_t c_1 hm
      refine lv_iconst (v := -1) hx hb d_Line_newest_49 (by decide) ?_
      have e3 := re1 hm
      exact W.iret hx hb hr (fun t9 ht hW => ⟨⟨_, (), rfl, e3.symm, trivial⟩, hS.F ht⟩) hS.2.2 d_Line_newest_50
    · replace hm := if_f c_1 hm
      refine lv_aload_n hx hb d_Line_newest_11 rfl (lv_at hl 0 rfl) ?_
      refine va_get (D := (dC, dI)) (ci := 8) (v := .ref ((u 47))) (C := R_Line) (T := F_Line) (N := 18) hx hb htt iw_Line hown hK hP 8 xo_8 rfl 8 (Nat.le_of_ble_eq_true rfl) (htt _ lk_Line_9) (fun _ h9 => h9) xg_8_8 d_Line_newest_12 ?_
      refine lv_iload_n hx hb d_Line_newest_15 rfl (lv_at hl 3 rfl) ?_
      obtain ⟨h_2, hm⟩ := ck_some hm
      refine va_iald hx hb hK hP 49 0 twA_37 rfl h_2 d_Line_newest_16 ?_
      refine lv_iconst (v := 1) hx hb d_Line_newest_17 (by decide) ?_
      refine lv_icmp_eq (tgt := 49) hx hb d_Line_newest_18 (by decide) (fun c_3 => ?_) (fun c_3 => ?_)
      · replace hm := if_t c_3 hm
        refine lv_iconst (v := -1) hx hb d_Line_newest_49 (by decide) ?_
        have e3 := re1 hm
        exact W.iret hx hb hr (fun t9 ht hW => ⟨⟨_, (), rfl, e3.symm, trivial⟩, hS.F ht⟩) hS.2.2 d_Line_newest_50
      · replace hm := if_f c_3 hm
        refine lv_aload_n hx hb d_Line_newest_21 rfl (lv_at hl 0 rfl) ?_
        refine va_get (D := (dC, dI)) (ci := 8) (v := .ref ((u 47))) (C := R_Line) (T := F_Line) (N := 18) hx hb htt iw_Line hown hK hP 8 xo_8 rfl 8 (Nat.le_of_ble_eq_true rfl) (htt _ lk_Line_9) (fun _ h9 => h9) xg_8_8 d_Line_newest_22 ?_
        refine lv_iload_n hx hb d_Line_newest_25 rfl (lv_at hl 3 rfl) ?_
        obtain ⟨h_4, hm⟩ := ck_some hm
        refine va_iald hx hb hK hP 49 0 twA_37 rfl h_4 d_Line_newest_26 ?_
        refine lv_iload_n hx hb d_Line_newest_27 rfl (lv_at hl 1 rfl) ?_
        refine lv_icmp_eq (tgt := 41) hx hb d_Line_newest_28 (by decide) (fun c_5 => ?_) (fun c_5 => ?_)
        · replace hm := if_t c_5 hm
          refine lv_iload_n hx hb d_Line_newest_41 rfl (lv_at hl 3 rfl) ?_
          have e3 := re1 hm
          exact W.iret hx hb hr (fun t9 ht hW => ⟨⟨_, (), rfl, e3.symm, trivial⟩, hS.F ht⟩) hS.2.2 d_Line_newest_42
        · replace hm := if_f c_5 hm
          refine lv_aload_n hx hb d_Line_newest_31 rfl (lv_at hl 0 rfl) ?_
          refine va_get (D := (dC, dI)) (ci := 8) (v := .ref ((u 47))) (C := R_Line) (T := F_Line) (N := 18) hx hb htt iw_Line hown hK hP 8 xo_8 rfl 8 (Nat.le_of_ble_eq_true rfl) (htt _ lk_Line_9) (fun _ h9 => h9) xg_8_8 d_Line_newest_32 ?_
          refine lv_iload_n hx hb d_Line_newest_35 rfl (lv_at hl 3 rfl) ?_
          obtain ⟨h_6, hm⟩ := ck_some hm
          refine va_iald hx hb hK hP 49 0 twA_37 rfl h_6 d_Line_newest_36 ?_
          refine lv_iload_n hx hb d_Line_newest_37 rfl (lv_at hl 2 rfl) ?_
          refine lv_icmp_ne (tgt := 43) hx hb d_Line_newest_38 (by decide) (fun c_7 => ?_) (fun c_7 => ?_)
          · replace hm := if_f c_7 hm
            obtain ⟨x_8, ex_8⟩ : ∃ y9 : Int32, y9 = v3 + (-1) := ⟨_, rfl⟩
            replace hm := ob1_at ex_8 hm
            refine lv_iinc (v := x_8) (lv' := [(3, .int x_8), (0, .ref ((u 8))), (1, .int v1), (2, .int v2)]) hx hb d_Line_newest_43 hl (k := 3) rfl (by rw [ex_8]; rfl) (by decide) rfl (fun ls hl => ?_)
            refine lv_goto (tgt := 7) hx hb d_Line_newest_46 (by decide) ?_
            exact ih _ _ _ hm _ _ _ hP hS (lv_sub hl [1, 2, 3, 0] rfl)
          · replace hm := if_t c_7 hm
            refine lv_iload_n hx hb d_Line_newest_41 rfl (lv_at hl 3 rfl) ?_
            have e3 := re1 hm
            exact W.iret hx hb hr (fun t9 ht hW => ⟨⟨_, (), rfl, e3.symm, trivial⟩, hS.F ht⟩) hS.2.2 d_Line_newest_42
def m_Line_newest (n : Nat) (g : Nat → Nat) (i : Nat → Int32) (a : Nat → Nat → Int32) (v1 : Int32) (v2 : Int32) : Option (Int32) := ob1 ((i 40) - 1 : Int32) (fun x_1 => m_Line_newest_b7 n g i a n v1 v2 x_1)
set_option maxHeartbeats 4000000 in
set_option maxRecDepth 100000 in
theorem x_Line_newest (l : Launch) (dC : Nat → ClassId) (dI : Nat → Nat → Nat) (cI : ClassId) (adK adV adA u o g : Nat → Nat) (sz : Nat) (n : Nat) {i : Nat → Int32} {a : Nat → Nat → Int32} {v1 : Int32} {v2 : Int32} {r2 : Int32} (hm : m_Line_newest n g i a v1 v2 = some r2) : Met l y_Line_newest w_Line_newest ({ frames := 0, cells := 0, slots := 0, locals := 0 } : Room) (va_Pc [.ref ((u 8)), .int v1, .int v2] (xEr dC dI cI adK adV adA u o g i a sz)) (va_Qi (xR r2) xT (xN sz)) 0 0 (xN sz) := by
  refine Met.ofW (cc := b_Line_newest) (maxL := 4) (ret := (some .int)) (by decide) rfl ?_
  intro p e s m args below meth c s₁ B hml hv
  obtain ⟨rfl, hsz, hP, hK, hE⟩ := hv
  have hx := B.exec
  have hb := B.bytes
  have hr := B.returns
  have hts := atoms_spec (ws := w_Line_newest) B.pre
  have htt : ∀ w ∈ tw_T, w.before _ s = true := fun w h => hts w (List.mem_cons_of_mem _ h)
  have hown : s.vm.findClass R_Line = some m.cls := findClass_of_methodNamed B.named
  have hlocks := B.notSynchronized
  subst hsz
  generalize hAe : xN s.heap.size = A at hE ⊢
  have hA : ∀ q : Nat, s.heap.size ≤ q → A q := fun q h => by rw [← hAe]; exact Or.inr h
  have hS : va_S A s.heap s.heap [] := va_S.rf
  have hl := lv_entry ([.ref ((u 8)), .int v1, .int v2]) (n := 4) (Nat.le_of_ble_eq_true rfl)
  rw [lg_entry_eq]
  generalize (lg_sl ([.ref ((u 8)), .int v1, .int v2]) ++ List.replicate (4 - (lg_sl ([.ref ((u 8)), .int v1, .int v2])).length) Slot.unset).toArray = ls at hl ⊢
  have hl : lv_has ls 4 [(0, .ref ((u 8))), (1, .int v1), (2, .int v2)] := hl
  rw [m_Line_newest] at hm
  refine lv_aload_n hx hb d_Line_newest_0 rfl (lv_at hl 0 rfl) ?_
  refine va_get (D := (dC, dI)) (ci := 8) (v := .int (i 40)) (C := R_Line) (T := F_Line) (N := 18) hx hb htt iw_Line hown hK hP 8 xo_8 rfl 6 (Nat.le_of_ble_eq_true rfl) (htt _ lk_Line_62) (fun _ h9 => h9) xg_8_6 d_Line_newest_1 ?_
  refine lv_iconst (v := 1) hx hb d_Line_newest_4 (by decide) ?_
  refine lv_isub hx hb d_Line_newest_5 ?_
  refine lv_topi (fun x_1 ex_1 => ?_)
  replace hm := ob1_at ex_1 hm
  refine lv_istore_n (lv' := [(3, .int x_1), (0, .ref ((u 8))), (1, .int v1), (2, .int v2)]) hx hb d_Line_newest_6 rfl hl (by decide) rfl (fun ls hl => ?_)
  exact lb_Line_newest_7 l dC dI cI adK adV adA u o g n hx hb hml hown hts hK hE hA hr hlocks n _ _ _ hm _ _ _ hP hS (lv_sub hl [1, 2, 3, 0] rfl)

def m_Names_takeBack (n : Nat) (g : Nat → Nat) (i : Nat → Int32) (a : Nat → Nat → Int32)  : Option ((Nat → Int32) × (Nat → Nat → Int32) × Int32) := ob1 (i 14 : Int32) (fun x_1 => ob1 (upd i 12 x_1 : Nat → Int32) (fun i_2 => cy ((0 : Int32)) ((0 : Int32)) ((64 : Int32)) 64 64 (ob1 (updA a 11 (va_cpy (a 14) (a 11) (0 : Int32).toNatClampNeg (0 : Int32).toNatClampNeg (64 : Int32).toNatClampNeg) : Nat → Nat → Int32) (fun a_4 => some (i_2, a_4, (0 : Int32))))))
set_option maxHeartbeats 4000000 in
set_option maxRecDepth 100000 in
theorem x_Names_takeBack (l : Launch) (dC : Nat → ClassId) (dI : Nat → Nat → Nat) (cI : ClassId) (adK adV adA u o g : Nat → Nat) (sz : Nat) (n : Nat) {i : Nat → Int32} {a : Nat → Nat → Int32}  {i2 : Nat → Int32} {a2 : Nat → Nat → Int32} {r2 : Int32} (hm : m_Names_takeBack n g i a = some (i2, a2, r2)) : Met l y_Names_takeBack w_Names_takeBack ({ frames := 1, cells := 0, slots := 0, locals := 40 } : Room) (va_Pc [.ref ((u 3))] (xE dC dI cI adK adV adA u o g i a sz)) (va_Qv xV (xB dC dI cI u o g i2 a2 (va_A (TW cI u o i a g) sz)) (va_A (TW cI u o i a g) sz)) 0 0 ((va_A (TW cI u o i a g) sz)) := by
  refine Met.ofW (cc := b_Names_takeBack) (maxL := 1) (ret := none) (by decide) rfl ?_
  intro p e s m args below meth c s₁ B hml hv
  obtain ⟨rfl, hsz, hP, hK, hE, hD0⟩ := hv
  have hx := B.exec
  have hb := B.bytes
  have hr := B.returns
  have hts := atoms_spec (ws := w_Names_takeBack) B.pre
  have htt : ∀ w ∈ tw_T, w.before _ s = true := fun w h => hts w (List.mem_cons_of_mem _ h)
  have hown : s.vm.findClass R_Names = some m.cls := findClass_of_methodNamed B.named
  have hlocks := B.notSynchronized
  subst hsz
  have hD := hD0.self (sz := s.heap.size)
  generalize hAe : (va_A (TW cI u o i a g) s.heap.size) = A at hD hE ⊢
  have hA : ∀ q : Nat, s.heap.size ≤ q → A q := fun q h => by rw [← hAe]; exact Or.inr h
  have hS : va_S A s.heap s.heap [] := va_S.rf
  have hl := lv_entry ([.ref ((u 3))]) (n := 1) (Nat.le_of_ble_eq_true rfl)
  rw [lg_entry_eq]
  generalize (lg_sl ([.ref ((u 3))]) ++ List.replicate (1 - (lg_sl ([.ref ((u 3))])).length) Slot.unset).toArray = ls at hl ⊢
  have hl : lv_has ls 1 [(0, .ref ((u 3)))] := hl
  rw [m_Names_takeBack] at hm
  refine lv_aload_n hx hb d_Names_takeBack_0 rfl (lv_at hl 0 rfl) ?_
  refine lv_aload_n hx hb d_Names_takeBack_1 rfl (lv_at hl 0 rfl) ?_
  refine va_get (D := (dC, dI)) (ci := 3) (v := .int (i 14)) (C := R_Names) (T := F_Names) (N := 9) hx hb htt iw_Names hown hK hP 3 xo_3 rfl 8 (Nat.le_of_ble_eq_true rfl) (htt _ lk_Names_66) (fun _ h9 => h9) xg_3_8 d_Names_takeBack_2 ?_
  refine lv_topi (fun x_1 ex_1 => ?_)
  replace hm := ob1_at ex_1 hm
  refine va_put (D := (dC, dI)) (ci := 3) (v := .int x_1) (ty := .int) (C := R_Names) (T := F_Names) (N := 9) hx hb htt iw_Names t_Names t_Names_ok n_Names hown hK hP hD hS 3 xo_3 rfl 3 (Nat.le_of_ble_eq_true rfl) (htt _ lk_Names_41) (fun _ h9 => h9) rfl (by decide +kernel) rfl rfl xl_3_3 d_Names_takeBack_5 (fun H locs hP hD hS => ?_)
  obtain ⟨i_2, ei_2⟩ : ∃ y9 : Nat → Int32, y9 = upd i 12 x_1 := ⟨_, rfl⟩
  replace hm := ob1_at ei_2 hm
  obtain ⟨hP, hD⟩ := xw_12 ei_2 hP hD
  refine lv_aload_n hx hb d_Names_takeBack_8 rfl (lv_at hl 0 rfl) ?_
  refine va_get (D := (dC, dI)) (ci := 3) (v := .ref ((u 24))) (C := R_Names) (T := F_Names) (N := 9) hx hb htt iw_Names hown hK hP 3 xo_3 rfl 7 (Nat.le_of_ble_eq_true rfl) (htt _ lk_Names_24) (fun _ h9 => h9) xg_3_7 d_Names_takeBack_9 ?_
  refine lv_iconst (v := 0) hx hb d_Names_takeBack_12 (by decide) ?_
  refine lv_aload_n hx hb d_Names_takeBack_13 rfl (lv_at hl 0 rfl) ?_
  refine va_get (D := (dC, dI)) (ci := 3) (v := .ref ((u 21))) (C := R_Names) (T := F_Names) (N := 9) hx hb htt iw_Names hown hK hP 3 xo_3 rfl 2 (Nat.le_of_ble_eq_true rfl) (htt _ lk_Names_15) (fun _ h9 => h9) xg_3_2 d_Names_takeBack_14 ?_
  refine lv_iconst (v := 0) hx hb d_Names_takeBack_17 (by decide) ?_
  refine lv_bipush (v := 64) hx hb d_Names_takeBack_18 (by decide) ?_
  obtain ⟨h_3a, h_3b, h_3c, h_3d, h_3e, hm⟩ := cy_some hm
  refine va_copyi hx hb (by rw [hml]; exact hl.1.symm) hown (htt _ lk_Names_69) (htt _ na_arraycopy) (htt _ st_arraycopy) (htt _ ini_System) hK hP hD hS 26 23 0 0 (ty := .int) twA_14 twA_11 rfl rfl rfl h_3a h_3b h_3c h_3d h_3e (fun _ _ => rfl) (Nat.le_of_ble_eq_true rfl) (Nat.le_of_ble_eq_true rfl) d_Names_takeBack_20 (fun H locs hP hD hS => ?_)
  obtain ⟨a_4, ea_4⟩ : ∃ y9 : Nat → Nat → Int32, y9 = updA a 11 (va_cpy (a 14) (a 11) (0 : Int32).toNatClampNeg (0 : Int32).toNatClampNeg (64 : Int32).toNatClampNeg) := ⟨_, rfl⟩
  replace hm := ob1_at ea_4 hm
  obtain ⟨hP, hD⟩ := xv_11 ea_4 hP hD
  obtain ⟨e1i, e1a, e3⟩ := re3 hm
  obtain ⟨hP, hD⟩ := x_eq e1i e1a hP hD
  exact W.vret hx hb hr (fun t9 ht hW => ⟨⟨(), rfl, trivial, by rw [ht]; exact hP, hD⟩, hS.F ht⟩) hS.2.2 d_Names_takeBack_23

def m_Procedures_takeBack (n : Nat) (g : Nat → Nat) (i : Nat → Int32) (a : Nat → Nat → Int32)  : Option ((Nat → Int32) × (Nat → Nat → Int32) × Int32) := ob1 (i 16 : Int32) (fun x_1 => ob1 (upd i 15 x_1 : Nat → Int32) (fun i_2 => cy ((0 : Int32)) ((0 : Int32)) ((40 : Int32)) 40 40 (ob1 (updA a 16 (va_cpy (a 18) (a 16) (0 : Int32).toNatClampNeg (0 : Int32).toNatClampNeg (40 : Int32).toNatClampNeg) : Nat → Nat → Int32) (fun a_4 => cy ((0 : Int32)) ((0 : Int32)) ((40 : Int32)) 40 40 (ob1 (updA a_4 17 (va_cpy (a_4 19) (a_4 17) (0 : Int32).toNatClampNeg (0 : Int32).toNatClampNeg (40 : Int32).toNatClampNeg) : Nat → Nat → Int32) (fun a_6 => some (i_2, a_6, (0 : Int32))))))))
set_option maxHeartbeats 4000000 in
set_option maxRecDepth 100000 in
theorem x_Procedures_takeBack (l : Launch) (dC : Nat → ClassId) (dI : Nat → Nat → Nat) (cI : ClassId) (adK adV adA u o g : Nat → Nat) (sz : Nat) (n : Nat) {i : Nat → Int32} {a : Nat → Nat → Int32}  {i2 : Nat → Int32} {a2 : Nat → Nat → Int32} {r2 : Int32} (hm : m_Procedures_takeBack n g i a = some (i2, a2, r2)) : Met l y_Procedures_takeBack w_Procedures_takeBack ({ frames := 1, cells := 0, slots := 0, locals := 40 } : Room) (va_Pc [.ref ((u 4))] (xE dC dI cI adK adV adA u o g i a sz)) (va_Qv xV (xB dC dI cI u o g i2 a2 (va_A (TW cI u o i a g) sz)) (va_A (TW cI u o i a g) sz)) 0 0 ((va_A (TW cI u o i a g) sz)) := by
  refine Met.ofW (cc := b_Procedures_takeBack) (maxL := 1) (ret := none) (by decide) rfl ?_
  intro p e s m args below meth c s₁ B hml hv
  obtain ⟨rfl, hsz, hP, hK, hE, hD0⟩ := hv
  have hx := B.exec
  have hb := B.bytes
  have hr := B.returns
  have hts := atoms_spec (ws := w_Procedures_takeBack) B.pre
  have htt : ∀ w ∈ tw_T, w.before _ s = true := fun w h => hts w (List.mem_cons_of_mem _ h)
  have hown : s.vm.findClass R_Procedures = some m.cls := findClass_of_methodNamed B.named
  have hlocks := B.notSynchronized
  subst hsz
  have hD := hD0.self (sz := s.heap.size)
  generalize hAe : (va_A (TW cI u o i a g) s.heap.size) = A at hD hE ⊢
  have hA : ∀ q : Nat, s.heap.size ≤ q → A q := fun q h => by rw [← hAe]; exact Or.inr h
  have hS : va_S A s.heap s.heap [] := va_S.rf
  have hl := lv_entry ([.ref ((u 4))]) (n := 1) (Nat.le_of_ble_eq_true rfl)
  rw [lg_entry_eq]
  generalize (lg_sl ([.ref ((u 4))]) ++ List.replicate (1 - (lg_sl ([.ref ((u 4))])).length) Slot.unset).toArray = ls at hl ⊢
  have hl : lv_has ls 1 [(0, .ref ((u 4)))] := hl
  rw [m_Procedures_takeBack] at hm
  refine lv_aload_n hx hb d_Procedures_takeBack_0 rfl (lv_at hl 0 rfl) ?_
  refine lv_aload_n hx hb d_Procedures_takeBack_1 rfl (lv_at hl 0 rfl) ?_
  refine va_get (D := (dC, dI)) (ci := 4) (v := .int (i 16)) (C := R_Procedures) (T := F_Procedures) (N := 8) hx hb htt iw_Procedures hown hK hP 4 xo_4 rfl 7 (Nat.le_of_ble_eq_true rfl) (htt _ lk_Procedures_48) (fun _ h9 => h9) xg_4_7 d_Procedures_takeBack_2 ?_
  refine lv_topi (fun x_1 ex_1 => ?_)
  replace hm := ob1_at ex_1 hm
  refine va_put (D := (dC, dI)) (ci := 4) (v := .int x_1) (ty := .int) (C := R_Procedures) (T := F_Procedures) (N := 8) hx hb htt iw_Procedures t_Procedures t_Procedures_ok n_Procedures hown hK hP hD hS 4 xo_4 rfl 4 (Nat.le_of_ble_eq_true rfl) (htt _ lk_Procedures_31) (fun _ h9 => h9) rfl (by decide +kernel) rfl rfl xl_4_4 d_Procedures_takeBack_5 (fun H locs hP hD hS => ?_)
  obtain ⟨i_2, ei_2⟩ : ∃ y9 : Nat → Int32, y9 = upd i 15 x_1 := ⟨_, rfl⟩
  replace hm := ob1_at ei_2 hm
  obtain ⟨hP, hD⟩ := xw_15 ei_2 hP hD
  refine lv_aload_n hx hb d_Procedures_takeBack_8 rfl (lv_at hl 0 rfl) ?_
  refine va_get (D := (dC, dI)) (ci := 4) (v := .ref ((u 28))) (C := R_Procedures) (T := F_Procedures) (N := 8) hx hb htt iw_Procedures hown hK hP 4 xo_4 rfl 5 (Nat.le_of_ble_eq_true rfl) (htt _ lk_Procedures_21) (fun _ h9 => h9) xg_4_5 d_Procedures_takeBack_9 ?_
  refine lv_iconst (v := 0) hx hb d_Procedures_takeBack_12 (by decide) ?_
  refine lv_aload_n hx hb d_Procedures_takeBack_13 rfl (lv_at hl 0 rfl) ?_
  refine va_get (D := (dC, dI)) (ci := 4) (v := .ref ((u 26))) (C := R_Procedures) (T := F_Procedures) (N := 8) hx hb htt iw_Procedures hown hK hP 4 xo_4 rfl 2 (Nat.le_of_ble_eq_true rfl) (htt _ lk_Procedures_15) (fun _ h9 => h9) xg_4_2 d_Procedures_takeBack_14 ?_
  refine lv_iconst (v := 0) hx hb d_Procedures_takeBack_17 (by decide) ?_
  refine lv_bipush (v := 40) hx hb d_Procedures_takeBack_18 (by decide) ?_
  obtain ⟨h_3a, h_3b, h_3c, h_3d, h_3e, hm⟩ := cy_some hm
  refine va_copyi hx hb (by rw [hml]; exact hl.1.symm) hown (htt _ lk_Procedures_51) (htt _ na_arraycopy) (htt _ st_arraycopy) (htt _ ini_System) hK hP hD hS 30 28 0 0 (ty := .int) twA_18 twA_16 rfl rfl rfl h_3a h_3b h_3c h_3d h_3e (fun _ _ => rfl) (Nat.le_of_ble_eq_true rfl) (Nat.le_of_ble_eq_true rfl) d_Procedures_takeBack_20 (fun H locs hP hD hS => ?_)
  obtain ⟨a_4, ea_4⟩ : ∃ y9 : Nat → Nat → Int32, y9 = updA a 16 (va_cpy (a 18) (a 16) (0 : Int32).toNatClampNeg (0 : Int32).toNatClampNeg (40 : Int32).toNatClampNeg) := ⟨_, rfl⟩
  replace hm := ob1_at ea_4 hm
  obtain ⟨hP, hD⟩ := xv_16 ea_4 hP hD
  refine lv_aload_n hx hb d_Procedures_takeBack_23 rfl (lv_at hl 0 rfl) ?_
  refine va_get (D := (dC, dI)) (ci := 4) (v := .ref ((u 29))) (C := R_Procedures) (T := F_Procedures) (N := 8) hx hb htt iw_Procedures hown hK hP 4 xo_4 rfl 6 (Nat.le_of_ble_eq_true rfl) (htt _ lk_Procedures_24) (fun _ h9 => h9) xg_4_6 d_Procedures_takeBack_24 ?_
  refine lv_iconst (v := 0) hx hb d_Procedures_takeBack_27 (by decide) ?_
  refine lv_aload_n hx hb d_Procedures_takeBack_28 rfl (lv_at hl 0 rfl) ?_
  refine va_get (D := (dC, dI)) (ci := 4) (v := .ref ((u 27))) (C := R_Procedures) (T := F_Procedures) (N := 8) hx hb htt iw_Procedures hown hK hP 4 xo_4 rfl 3 (Nat.le_of_ble_eq_true rfl) (htt _ lk_Procedures_18) (fun _ h9 => h9) xg_4_3 d_Procedures_takeBack_29 ?_
  refine lv_iconst (v := 0) hx hb d_Procedures_takeBack_32 (by decide) ?_
  refine lv_bipush (v := 40) hx hb d_Procedures_takeBack_33 (by decide) ?_
  obtain ⟨h_5a, h_5b, h_5c, h_5d, h_5e, hm⟩ := cy_some hm
  refine va_copyi hx hb (by rw [hml]; exact hl.1.symm) hown (htt _ lk_Procedures_51) (htt _ na_arraycopy) (htt _ st_arraycopy) (htt _ ini_System) hK hP hD hS 31 29 0 0 (ty := .int) twA_19 twA_17 rfl rfl rfl h_5a h_5b h_5c h_5d h_5e (fun _ _ => rfl) (Nat.le_of_ble_eq_true rfl) (Nat.le_of_ble_eq_true rfl) d_Procedures_takeBack_35 (fun H locs hP hD hS => ?_)
  obtain ⟨a_6, ea_6⟩ : ∃ y9 : Nat → Nat → Int32, y9 = updA a_4 17 (va_cpy (a_4 19) (a_4 17) (0 : Int32).toNatClampNeg (0 : Int32).toNatClampNeg (40 : Int32).toNatClampNeg) := ⟨_, rfl⟩
  replace hm := ob1_at ea_6 hm
  obtain ⟨hP, hD⟩ := xv_17 ea_6 hP hD
  obtain ⟨e1i, e1a, e3⟩ := re3 hm
  obtain ⟨hP, hD⟩ := x_eq e1i e1a hP hD
  exact W.vret hx hb hr (fun t9 ht hW => ⟨⟨(), rfl, trivial, by rw [ht]; exact hP, hD⟩, hS.F ht⟩) hS.2.2 d_Procedures_takeBack_38

def m_Turtles_takeBack (n : Nat) (g : Nat → Nat) (i : Nat → Int32) (a : Nat → Nat → Int32)  : Option ((Nat → Int32) × (Nat → Nat → Int32) × Int32) := cy ((0 : Int32)) ((0 : Int32)) (nI 56) 56 56 (ob1 (updA a 20 (va_cpy (a 24) (a 20) (0 : Int32).toNatClampNeg (0 : Int32).toNatClampNeg (nI 56).toNatClampNeg) : Nat → Nat → Int32) (fun a_2 => cy ((0 : Int32)) ((0 : Int32)) (nI 4096) 4096 4096 (ob1 (updA a_2 21 (va_cpy (a_2 25) (a_2 21) (0 : Int32).toNatClampNeg (0 : Int32).toNatClampNeg (nI 4096).toNatClampNeg) : Nat → Nat → Int32) (fun a_4 => ob1 (i 18 : Int32) (fun x_5 => ob1 (upd i 17 x_5 : Nat → Int32) (fun i_6 => some (i_6, a_4, (0 : Int32))))))))
set_option maxHeartbeats 4000000 in
set_option maxRecDepth 100000 in
theorem x_Turtles_takeBack (l : Launch) (dC : Nat → ClassId) (dI : Nat → Nat → Nat) (cI : ClassId) (adK adV adA u o g : Nat → Nat) (sz : Nat) (n : Nat) {i : Nat → Int32} {a : Nat → Nat → Int32}  {i2 : Nat → Int32} {a2 : Nat → Nat → Int32} {r2 : Int32} (hm : m_Turtles_takeBack n g i a = some (i2, a2, r2)) : Met l y_Turtles_takeBack w_Turtles_takeBack ({ frames := 1, cells := 0, slots := 0, locals := 40 } : Room) (va_Pc [.ref ((u 5))] (xE dC dI cI adK adV adA u o g i a sz)) (va_Qv xV (xB dC dI cI u o g i2 a2 (va_A (TW cI u o i a g) sz)) (va_A (TW cI u o i a g) sz)) 0 0 ((va_A (TW cI u o i a g) sz)) := by
  refine Met.ofW (cc := b_Turtles_takeBack) (maxL := 1) (ret := none) (by decide) rfl ?_
  intro p e s m args below meth c s₁ B hml hv
  obtain ⟨rfl, hsz, hP, hK, hE, hD0⟩ := hv
  have hx := B.exec
  have hb := B.bytes
  have hr := B.returns
  have hts := atoms_spec (ws := w_Turtles_takeBack) B.pre
  have htt : ∀ w ∈ tw_T, w.before _ s = true := fun w h => hts w (List.mem_cons_of_mem _ h)
  have hown : s.vm.findClass R_Turtles = some m.cls := findClass_of_methodNamed B.named
  have hlocks := B.notSynchronized
  subst hsz
  have hD := hD0.self (sz := s.heap.size)
  generalize hAe : (va_A (TW cI u o i a g) s.heap.size) = A at hD hE ⊢
  have hA : ∀ q : Nat, s.heap.size ≤ q → A q := fun q h => by rw [← hAe]; exact Or.inr h
  have hS : va_S A s.heap s.heap [] := va_S.rf
  have hl := lv_entry ([.ref ((u 5))]) (n := 1) (Nat.le_of_ble_eq_true rfl)
  rw [lg_entry_eq]
  generalize (lg_sl ([.ref ((u 5))]) ++ List.replicate (1 - (lg_sl ([.ref ((u 5))])).length) Slot.unset).toArray = ls at hl ⊢
  have hl : lv_has ls 1 [(0, .ref ((u 5)))] := hl
  rw [m_Turtles_takeBack] at hm
  refine lv_aload_n hx hb d_Turtles_takeBack_0 rfl (lv_at hl 0 rfl) ?_
  refine va_get (D := (dC, dI)) (ci := 5) (v := .ref ((u 34))) (C := R_Turtles) (T := F_Turtles) (N := 8) hx hb htt iw_Turtles hown hK hP 5 xo_5 rfl 5 (Nat.le_of_ble_eq_true rfl) (htt _ lk_Turtles_24) (fun _ h9 => h9) xg_5_5 d_Turtles_takeBack_1 ?_
  refine lv_iconst (v := 0) hx hb d_Turtles_takeBack_4 (by decide) ?_
  refine lv_aload_n hx hb d_Turtles_takeBack_5 rfl (lv_at hl 0 rfl) ?_
  refine va_get (D := (dC, dI)) (ci := 5) (v := .ref ((u 30))) (C := R_Turtles) (T := F_Turtles) (N := 8) hx hb htt iw_Turtles hown hK hP 5 xo_5 rfl 0 (Nat.le_of_ble_eq_true rfl) (htt _ lk_Turtles_11) (fun _ h9 => h9) xg_5_0 d_Turtles_takeBack_6 ?_
  refine lv_iconst (v := 0) hx hb d_Turtles_takeBack_9 (by decide) ?_
  refine lv_aload_n hx hb d_Turtles_takeBack_10 rfl (lv_at hl 0 rfl) ?_
  refine va_get (D := (dC, dI)) (ci := 5) (v := .ref ((u 30))) (C := R_Turtles) (T := F_Turtles) (N := 8) hx hb htt iw_Turtles hown hK hP 5 xo_5 rfl 0 (Nat.le_of_ble_eq_true rfl) (htt _ lk_Turtles_11) (fun _ h9 => h9) xg_5_0 d_Turtles_takeBack_11 ?_
  refine va_alen (v := nI 56) hx hb hK hP 32 0 twA_20 rfl rfl d_Turtles_takeBack_14 ?_
  obtain ⟨h_1a, h_1b, h_1c, h_1d, h_1e, hm⟩ := cy_some hm
  refine va_copyi hx hb (by rw [hml]; exact hl.1.symm) hown (htt _ lk_Turtles_77) (htt _ na_arraycopy) (htt _ st_arraycopy) (htt _ ini_System) hK hP hD hS 36 32 0 0 (ty := .int) twA_24 twA_20 rfl rfl rfl h_1a h_1b h_1c h_1d h_1e (fun _ _ => rfl) (Nat.le_of_ble_eq_true rfl) (Nat.le_of_ble_eq_true rfl) d_Turtles_takeBack_15 (fun H locs hP hD hS => ?_)
  obtain ⟨a_2, ea_2⟩ : ∃ y9 : Nat → Nat → Int32, y9 = updA a 20 (va_cpy (a 24) (a 20) (0 : Int32).toNatClampNeg (0 : Int32).toNatClampNeg (nI 56).toNatClampNeg) := ⟨_, rfl⟩
  replace hm := ob1_at ea_2 hm
  obtain ⟨hP, hD⟩ := xv_20 ea_2 hP hD
  refine lv_aload_n hx hb d_Turtles_takeBack_18 rfl (lv_at hl 0 rfl) ?_
  refine va_get (D := (dC, dI)) (ci := 5) (v := .ref ((u 35))) (C := R_Turtles) (T := F_Turtles) (N := 8) hx hb htt iw_Turtles hown hK hP 5 xo_5 rfl 6 (Nat.le_of_ble_eq_true rfl) (htt _ lk_Turtles_27) (fun _ h9 => h9) xg_5_6 d_Turtles_takeBack_19 ?_
  refine lv_iconst (v := 0) hx hb d_Turtles_takeBack_22 (by decide) ?_
  refine lv_aload_n hx hb d_Turtles_takeBack_23 rfl (lv_at hl 0 rfl) ?_
  refine va_get (D := (dC, dI)) (ci := 5) (v := .ref ((u 31))) (C := R_Turtles) (T := F_Turtles) (N := 8) hx hb htt iw_Turtles hown hK hP 5 xo_5 rfl 1 (Nat.le_of_ble_eq_true rfl) (htt _ lk_Turtles_15) (fun _ h9 => h9) xg_5_1 d_Turtles_takeBack_24 ?_
  refine lv_iconst (v := 0) hx hb d_Turtles_takeBack_27 (by decide) ?_
  refine lv_aload_n hx hb d_Turtles_takeBack_28 rfl (lv_at hl 0 rfl) ?_
  refine va_get (D := (dC, dI)) (ci := 5) (v := .ref ((u 31))) (C := R_Turtles) (T := F_Turtles) (N := 8) hx hb htt iw_Turtles hown hK hP 5 xo_5 rfl 1 (Nat.le_of_ble_eq_true rfl) (htt _ lk_Turtles_15) (fun _ h9 => h9) xg_5_1 d_Turtles_takeBack_29 ?_
  refine va_alen (v := nI 4096) hx hb hK hP 33 0 twA_21 rfl rfl d_Turtles_takeBack_32 ?_
  obtain ⟨h_3a, h_3b, h_3c, h_3d, h_3e, hm⟩ := cy_some hm
  refine va_copyi hx hb (by rw [hml]; exact hl.1.symm) hown (htt _ lk_Turtles_77) (htt _ na_arraycopy) (htt _ st_arraycopy) (htt _ ini_System) hK hP hD hS 37 33 0 0 (ty := .int) twA_25 twA_21 rfl rfl rfl h_3a h_3b h_3c h_3d h_3e (fun _ _ => rfl) (Nat.le_of_ble_eq_true rfl) (Nat.le_of_ble_eq_true rfl) d_Turtles_takeBack_33 (fun H locs hP hD hS => ?_)
  obtain ⟨a_4, ea_4⟩ : ∃ y9 : Nat → Nat → Int32, y9 = updA a_2 21 (va_cpy (a_2 25) (a_2 21) (0 : Int32).toNatClampNeg (0 : Int32).toNatClampNeg (nI 4096).toNatClampNeg) := ⟨_, rfl⟩
  replace hm := ob1_at ea_4 hm
  obtain ⟨hP, hD⟩ := xv_21 ea_4 hP hD
  refine lv_aload_n hx hb d_Turtles_takeBack_36 rfl (lv_at hl 0 rfl) ?_
  refine lv_aload_n hx hb d_Turtles_takeBack_37 rfl (lv_at hl 0 rfl) ?_
  refine va_get (D := (dC, dI)) (ci := 5) (v := .int (i 18)) (C := R_Turtles) (T := F_Turtles) (N := 8) hx hb htt iw_Turtles hown hK hP 5 xo_5 rfl 7 (Nat.le_of_ble_eq_true rfl) (htt _ lk_Turtles_137) (fun _ h9 => h9) xg_5_7 d_Turtles_takeBack_38 ?_
  refine lv_topi (fun x_5 ex_5 => ?_)
  replace hm := ob1_at ex_5 hm
  refine va_put (D := (dC, dI)) (ci := 5) (v := .int x_5) (ty := .int) (C := R_Turtles) (T := F_Turtles) (N := 8) hx hb htt iw_Turtles t_Turtles t_Turtles_ok n_Turtles hown hK hP hD hS 5 xo_5 rfl 2 (Nat.le_of_ble_eq_true rfl) (htt _ lk_Turtles_34) (fun _ h9 => h9) rfl (by decide +kernel) rfl rfl xl_5_2 d_Turtles_takeBack_41 (fun H locs hP hD hS => ?_)
  obtain ⟨i_6, ei_6⟩ : ∃ y9 : Nat → Int32, y9 = upd i 17 x_5 := ⟨_, rfl⟩
  replace hm := ob1_at ei_6 hm
  obtain ⟨hP, hD⟩ := xw_17 ei_6 hP hD
  obtain ⟨e1i, e1a, e3⟩ := re3 hm
  obtain ⟨hP, hD⟩ := x_eq e1i e1a hP hD
  exact W.vret hx hb hr (fun t9 ht hW => ⟨⟨(), rfl, trivial, by rw [ht]; exact hP, hD⟩, hS.F ht⟩) hS.2.2 d_Turtles_takeBack_44

def m_Output_takeBack (n : Nat) (g : Nat → Nat) (i : Nat → Int32) (a : Nat → Nat → Int32)  : Option ((Nat → Int32) × (Nat → Nat → Int32) × Int32) := cy ((0 : Int32)) ((0 : Int32)) ((2000 : Int32)) 2000 2000 (ob1 (updA a 26 (va_cpy (a 27) (a 26) (0 : Int32).toNatClampNeg (0 : Int32).toNatClampNeg (2000 : Int32).toNatClampNeg) : Nat → Nat → Int32) (fun a_2 => ob1 (i 21 : Int32) (fun x_3 => ob1 (upd i 19 x_3 : Nat → Int32) (fun i_4 => ob1 (i_4 22 : Int32) (fun x_5 => ob1 (upd i_4 20 x_5 : Nat → Int32) (fun i_6 => some (i_6, a_2, (0 : Int32))))))))
set_option maxHeartbeats 4000000 in
set_option maxRecDepth 100000 in
theorem x_Output_takeBack (l : Launch) (dC : Nat → ClassId) (dI : Nat → Nat → Nat) (cI : ClassId) (adK adV adA u o g : Nat → Nat) (sz : Nat) (n : Nat) {i : Nat → Int32} {a : Nat → Nat → Int32}  {i2 : Nat → Int32} {a2 : Nat → Nat → Int32} {r2 : Int32} (hm : m_Output_takeBack n g i a = some (i2, a2, r2)) : Met l y_Output_takeBack w_Output_takeBack ({ frames := 1, cells := 0, slots := 0, locals := 40 } : Room) (va_Pc [.ref ((u 6))] (xE dC dI cI adK adV adA u o g i a sz)) (va_Qv xV (xB dC dI cI u o g i2 a2 (va_A (TW cI u o i a g) sz)) (va_A (TW cI u o i a g) sz)) 0 0 ((va_A (TW cI u o i a g) sz)) := by
  refine Met.ofW (cc := b_Output_takeBack) (maxL := 1) (ret := none) (by decide) rfl ?_
  intro p e s m args below meth c s₁ B hml hv
  obtain ⟨rfl, hsz, hP, hK, hE, hD0⟩ := hv
  have hx := B.exec
  have hb := B.bytes
  have hr := B.returns
  have hts := atoms_spec (ws := w_Output_takeBack) B.pre
  have htt : ∀ w ∈ tw_T, w.before _ s = true := fun w h => hts w (List.mem_cons_of_mem _ h)
  have hown : s.vm.findClass R_Output = some m.cls := findClass_of_methodNamed B.named
  have hlocks := B.notSynchronized
  subst hsz
  have hD := hD0.self (sz := s.heap.size)
  generalize hAe : (va_A (TW cI u o i a g) s.heap.size) = A at hD hE ⊢
  have hA : ∀ q : Nat, s.heap.size ≤ q → A q := fun q h => by rw [← hAe]; exact Or.inr h
  have hS : va_S A s.heap s.heap [] := va_S.rf
  have hl := lv_entry ([.ref ((u 6))]) (n := 1) (Nat.le_of_ble_eq_true rfl)
  rw [lg_entry_eq]
  generalize (lg_sl ([.ref ((u 6))]) ++ List.replicate (1 - (lg_sl ([.ref ((u 6))])).length) Slot.unset).toArray = ls at hl ⊢
  have hl : lv_has ls 1 [(0, .ref ((u 6)))] := hl
  rw [m_Output_takeBack] at hm
  refine lv_aload_n hx hb d_Output_takeBack_0 rfl (lv_at hl 0 rfl) ?_
  refine va_get (D := (dC, dI)) (ci := 6) (v := .ref ((u 37))) (C := R_Output) (T := F_Output) (N := 11) hx hb htt iw_Output hown hK hP 6 xo_6 rfl 4 (Nat.le_of_ble_eq_true rfl) (htt _ lk_Output_15) (fun _ h9 => h9) xg_6_4 d_Output_takeBack_1 ?_
  refine lv_iconst (v := 0) hx hb d_Output_takeBack_4 (by decide) ?_
  refine lv_aload_n hx hb d_Output_takeBack_5 rfl (lv_at hl 0 rfl) ?_
  refine va_get (D := (dC, dI)) (ci := 6) (v := .ref ((u 36))) (C := R_Output) (T := F_Output) (N := 11) hx hb htt iw_Output hown hK hP 6 xo_6 rfl 1 (Nat.le_of_ble_eq_true rfl) (htt _ lk_Output_11) (fun _ h9 => h9) xg_6_1 d_Output_takeBack_6 ?_
  refine lv_iconst (v := 0) hx hb d_Output_takeBack_9 (by decide) ?_
  refine lv_sipush (v := 2000) hx hb d_Output_takeBack_10 (by decide) ?_
  obtain ⟨h_1a, h_1b, h_1c, h_1d, h_1e, hm⟩ := cy_some hm
  refine va_copyi hx hb (by rw [hml]; exact hl.1.symm) hown (htt _ lk_Output_75) (htt _ na_arraycopy) (htt _ st_arraycopy) (htt _ ini_System) hK hP hD hS 39 38 0 0 (ty := .int) twA_27 twA_26 rfl rfl rfl h_1a h_1b h_1c h_1d h_1e (fun _ _ => rfl) (Nat.le_of_ble_eq_true rfl) (Nat.le_of_ble_eq_true rfl) d_Output_takeBack_13 (fun H locs hP hD hS => ?_)
  obtain ⟨a_2, ea_2⟩ : ∃ y9 : Nat → Nat → Int32, y9 = updA a 26 (va_cpy (a 27) (a 26) (0 : Int32).toNatClampNeg (0 : Int32).toNatClampNeg (2000 : Int32).toNatClampNeg) := ⟨_, rfl⟩
  replace hm := ob1_at ea_2 hm
  obtain ⟨hP, hD⟩ := xv_26 ea_2 hP hD
  refine lv_aload_n hx hb d_Output_takeBack_16 rfl (lv_at hl 0 rfl) ?_
  refine lv_aload_n hx hb d_Output_takeBack_17 rfl (lv_at hl 0 rfl) ?_
  refine va_get (D := (dC, dI)) (ci := 6) (v := .int (i 21)) (C := R_Output) (T := F_Output) (N := 11) hx hb htt iw_Output hown hK hP 6 xo_6 rfl 5 (Nat.le_of_ble_eq_true rfl) (htt _ lk_Output_81) (fun _ h9 => h9) xg_6_5 d_Output_takeBack_18 ?_
  refine lv_topi (fun x_3 ex_3 => ?_)
  replace hm := ob1_at ex_3 hm
  refine va_put (D := (dC, dI)) (ci := 6) (v := .int x_3) (ty := .int) (C := R_Output) (T := F_Output) (N := 11) hx hb htt iw_Output t_Output t_Output_ok n_Output hown hK hP hD hS 6 xo_6 rfl 2 (Nat.le_of_ble_eq_true rfl) (htt _ lk_Output_61) (fun _ h9 => h9) rfl (by decide +kernel) rfl rfl xl_6_2 d_Output_takeBack_21 (fun H locs hP hD hS => ?_)
  obtain ⟨i_4, ei_4⟩ : ∃ y9 : Nat → Int32, y9 = upd i 19 x_3 := ⟨_, rfl⟩
  replace hm := ob1_at ei_4 hm
  obtain ⟨hP, hD⟩ := xw_19 ei_4 hP hD
  refine lv_aload_n hx hb d_Output_takeBack_24 rfl (lv_at hl 0 rfl) ?_
  refine lv_aload_n hx hb d_Output_takeBack_25 rfl (lv_at hl 0 rfl) ?_
  refine va_get (D := (dC, dI)) (ci := 6) (v := .int (i_4 22)) (C := R_Output) (T := F_Output) (N := 11) hx hb htt iw_Output hown hK hP 6 xo_6 rfl 6 (Nat.le_of_ble_eq_true rfl) (htt _ lk_Output_84) (fun _ h9 => h9) xg_6_6 d_Output_takeBack_26 ?_
  refine lv_topi (fun x_5 ex_5 => ?_)
  replace hm := ob1_at ex_5 hm
  refine va_put (D := (dC, dI)) (ci := 6) (v := .int x_5) (ty := .int) (C := R_Output) (T := F_Output) (N := 11) hx hb htt iw_Output t_Output t_Output_ok n_Output hown hK hP hD hS 6 xo_6 rfl 3 (Nat.le_of_ble_eq_true rfl) (htt _ lk_Output_64) (fun _ h9 => h9) rfl (by decide +kernel) rfl rfl xl_6_3 d_Output_takeBack_29 (fun H locs hP hD hS => ?_)
  obtain ⟨i_6, ei_6⟩ : ∃ y9 : Nat → Int32, y9 = upd i_4 20 x_5 := ⟨_, rfl⟩
  replace hm := ob1_at ei_6 hm
  obtain ⟨hP, hD⟩ := xw_20 ei_6 hP hD
  obtain ⟨e1i, e1a, e3⟩ := re3 hm
  obtain ⟨hP, hD⟩ := x_eq e1i e1a hP hD
  exact W.vret hx hb hr (fun t9 ht hW => ⟨⟨(), rfl, trivial, by rw [ht]; exact hP, hD⟩, hS.F ht⟩) hS.2.2 d_Output_takeBack_32

def m_Machine_waitingCount (n : Nat) (g : Nat → Nat) (i : Nat → Int32) (a : Nat → Nat → Int32)  : Option (Int32) := some (i 42)
set_option maxHeartbeats 4000000 in
set_option maxRecDepth 100000 in
theorem x_Machine_waitingCount (l : Launch) (dC : Nat → ClassId) (dI : Nat → Nat → Nat) (cI : ClassId) (adK adV adA u o g : Nat → Nat) (sz : Nat) (n : Nat) {i : Nat → Int32} {a : Nat → Nat → Int32}  {r2 : Int32} (hm : m_Machine_waitingCount n g i a = some r2) : Met l y_Machine_waitingCount w_Machine_waitingCount ({ frames := 0, cells := 0, slots := 0, locals := 0 } : Room) (va_Pc [.ref ((u 11))] (xEr dC dI cI adK adV adA u o g i a sz)) (va_Qi (xR r2) xT (xN sz)) 0 0 (xN sz) := by
  refine Met.ofW (cc := b_Machine_waitingCount) (maxL := 1) (ret := (some .int)) (by decide) rfl ?_
  intro p e s m args below meth c s₁ B hml hv
  obtain ⟨rfl, hsz, hP, hK, hE⟩ := hv
  have hx := B.exec
  have hb := B.bytes
  have hr := B.returns
  have hts := atoms_spec (ws := w_Machine_waitingCount) B.pre
  have htt : ∀ w ∈ tw_T, w.before _ s = true := fun w h => hts w (List.mem_cons_of_mem _ h)
  have hown : s.vm.findClass R_Machine = some m.cls := findClass_of_methodNamed B.named
  have hlocks := B.notSynchronized
  subst hsz
  generalize hAe : xN s.heap.size = A at hE ⊢
  have hA : ∀ q : Nat, s.heap.size ≤ q → A q := fun q h => by rw [← hAe]; exact Or.inr h
  have hS : va_S A s.heap s.heap [] := va_S.rf
  have hl := lv_entry ([.ref ((u 11))]) (n := 1) (Nat.le_of_ble_eq_true rfl)
  rw [lg_entry_eq]
  generalize (lg_sl ([.ref ((u 11))]) ++ List.replicate (1 - (lg_sl ([.ref ((u 11))])).length) Slot.unset).toArray = ls at hl ⊢
  have hl : lv_has ls 1 [(0, .ref ((u 11)))] := hl
  rw [m_Machine_waitingCount] at hm
  refine lv_aload_n hx hb d_Machine_waitingCount_0 rfl (lv_at hl 0 rfl) ?_
  refine va_get (D := (dC, dI)) (ci := 11) (v := .ref ((u 9))) (C := R_Machine) (T := F_Machine) (N := 9) hx hb htt iw_Machine hown hK hP 11 xo_11 rfl 2 (Nat.le_of_ble_eq_true rfl) (htt _ lk_Machine_22) (fun _ h9 => h9) xg_11_2 d_Machine_waitingCount_1 ?_
  refine va_get (D := (dC, dI)) (ci := 9) (v := .int (i 42)) (C := R_Waiting) (T := F_Waiting) (N := 11) hx hb htt iw_Waiting hown hK hP 9 xo_9 rfl 7 (Nat.le_of_ble_eq_true rfl) (htt _ lk_Machine_42) (fun _ h9 => h9) xg_9_7 d_Machine_waitingCount_4 ?_
  have e3 := re1 hm
  exact W.iret hx hb hr (fun t9 ht hW => ⟨⟨_, (), rfl, e3.symm, trivial⟩, hS.F ht⟩) hS.2.2 d_Machine_waitingCount_7

def m_Math_floorMod (n : Nat) (v0 : Int32) (v1 : Int32) : Option (Int32) := cz v1 (ob1 (v0 - v0 / v1 * v1 : Int32) (fun x_2 => if ((0 : Int32)) ≤ ((v0 ^^^ v1)) then some x_2 else if x_2 = ((0 : Int32)) then some x_2 else some (x_2 + v1)))
set_option maxHeartbeats 4000000 in
set_option maxRecDepth 100000 in
theorem x_Math_floorMod (l : Launch) (sz : Nat) (n : Nat) {v0 : Int32} {v1 : Int32} {r2 : Int32} (hm : m_Math_floorMod n v0 v1 = some r2) : Met l y_Math_floorMod w_Math_floorMod ({ frames := 0, cells := 0, slots := 0, locals := 0 } : Room) (va_Pc [.int v0, .int v1] (xE0 sz)) (va_Qi (xR r2) xT (xN sz)) 0 0 (xN sz) := by
  refine mt_ofW (cc := b_Math_floorMod) (maxL := 3) (ret := (some .int)) (by decide +kernel) rfl ?_
  intro p e s m args below meth c s₁ B hml hv
  obtain ⟨rfl, hsz⟩ := hv
  have hx := B.exec
  have hb := B.bytes
  have hr := B.returns
  have hts := atoms_spec (ws := w_Math_floorMod) B.pre
  have htt : ∀ w ∈ tw_T, w.before _ s = true := fun w h => hts w (List.mem_cons_of_mem _ h)
  have hown : s.vm.findClass "java/lang/Math" = some m.cls := findClass_of_methodNamed B.named
  have hlocks := B.notSynchronized
  subst hsz
  generalize hAe : xN s.heap.size = A
  have hA : ∀ q : Nat, s.heap.size ≤ q → A q := fun q h => by rw [← hAe]; exact Or.inr h
  have hS : va_S A s.heap s.heap [] := va_S.rf
  have hl := lv_entry ([.int v0, .int v1]) (n := 3) (Nat.le_of_ble_eq_true rfl)
  rw [lg_entry_eq]
  generalize (lg_sl ([.int v0, .int v1]) ++ List.replicate (3 - (lg_sl ([.int v0, .int v1])).length) Slot.unset).toArray = ls at hl ⊢
  have hl : lv_has ls 3 [(0, .int v0), (1, .int v1)] := hl
  rw [m_Math_floorMod] at hm
  refine lv_iload_n hx hb d_Math_floorMod_0 rfl (lv_at hl 0 rfl) ?_
  refine lv_iload_n hx hb d_Math_floorMod_1 rfl (lv_at hl 1 rfl) ?_
  obtain ⟨h_1, hm⟩ := cz_some hm
  refine lv_irem hx hb d_Math_floorMod_2 (h_1) ?_
  refine lv_topi (fun x_2 ex_2 => ?_)
  replace hm := ob1_at ex_2 hm
  refine lv_istore_n (lv' := [(2, .int x_2), (0, .int v0), (1, .int v1)]) hx hb d_Math_floorMod_3 rfl hl (by decide) rfl (fun ls hl => ?_)
  refine lv_iload_n hx hb d_Math_floorMod_4 rfl (lv_at hl 1 rfl) ?_
  refine lv_iload_n hx hb d_Math_floorMod_5 rfl (lv_at hl 2 rfl) ?_
  refine lv_ixor hx hb d_Math_floorMod_6 ?_
  refine lv_if_ge (tgt := 18) hx hb d_Math_floorMod_7 (by decide) (fun c_3 => ?_) (fun c_3 => ?_)
  · replace hm := if_t c_3 hm
    refine lv_iload_n hx hb d_Math_floorMod_18 rfl (lv_at hl 0 rfl) ?_
    have e3 := re1 hm
    exact W.iret hx hb hr (fun t9 ht hW => ⟨⟨_, (), rfl, e3.symm, trivial⟩, hS.F ht⟩) hS.2.2 d_Math_floorMod_19
  · replace hm := if_f c_3 hm
    refine lv_iload_n hx hb d_Math_floorMod_10 rfl (lv_at hl 0 rfl) ?_
    refine lv_if_eq (tgt := 18) hx hb d_Math_floorMod_11 (by decide) (fun c_4 => ?_) (fun c_4 => ?_)
    · replace hm := if_t c_4 hm
      refine lv_iload_n hx hb d_Math_floorMod_18 rfl (lv_at hl 0 rfl) ?_
      have e3 := re1 hm
      exact W.iret hx hb hr (fun t9 ht hW => ⟨⟨_, (), rfl, e3.symm, trivial⟩, hS.F ht⟩) hS.2.2 d_Math_floorMod_19
    · replace hm := if_f c_4 hm
      refine lv_iload_n hx hb d_Math_floorMod_14 rfl (lv_at hl 0 rfl) ?_
      refine lv_iload_n hx hb d_Math_floorMod_15 rfl (lv_at hl 2 rfl) ?_
      refine lv_iadd hx hb d_Math_floorMod_16 ?_
      have e3 := re1 hm
      exact W.iret hx hb hr (fun t9 ht hW => ⟨⟨_, (), rfl, e3.symm, trivial⟩, hS.F ht⟩) hS.2.2 d_Math_floorMod_17

def m_Output_latest (n : Nat) (g : Nat → Nat) (i : Nat → Int32) (a : Nat → Nat → Int32) (v1 : Int32) : Option (Int32) := if v1 < ((0 : Int32)) then some ((-1)) else if ((i 20)) ≤ v1 then some ((-1)) else ob0 (m_Math_floorMod n (((i 19) - 1) - v1) (2000 : Int32)) (fun r_4 => ck r_4 2000 (some (a 26 r_4.toNatClampNeg)))
set_option maxHeartbeats 4000000 in
set_option maxRecDepth 100000 in
theorem x_Output_latest (l : Launch) (dC : Nat → ClassId) (dI : Nat → Nat → Nat) (cI : ClassId) (adK adV adA u o g : Nat → Nat) (sz : Nat) (n : Nat) {i : Nat → Int32} {a : Nat → Nat → Int32} {v1 : Int32} {r2 : Int32} (hm : m_Output_latest n g i a v1 = some r2) : Met l y_Output_latest w_Output_latest ({ frames := 1, cells := 0, slots := 0, locals := 22 } : Room) (va_Pc [.ref ((u 6)), .int v1] (xEr dC dI cI adK adV adA u o g i a sz)) (va_Qi (xR r2) xT (xN sz)) 0 0 (xN sz) := by
  refine Met.ofW (cc := b_Output_latest) (maxL := 2) (ret := (some .int)) (by decide) rfl ?_
  intro p e s m args below meth c s₁ B hml hv
  obtain ⟨rfl, hsz, hP, hK, hE⟩ := hv
  have hx := B.exec
  have hb := B.bytes
  have hr := B.returns
  have hts := atoms_spec (ws := w_Output_latest) B.pre
  have htt : ∀ w ∈ tw_T, w.before _ s = true := fun w h => hts w (List.mem_cons_of_mem _ h)
  have hown : s.vm.findClass R_Output = some m.cls := findClass_of_methodNamed B.named
  have hlocks := B.notSynchronized
  subst hsz
  generalize hAe : xN s.heap.size = A at hE ⊢
  have hA : ∀ q : Nat, s.heap.size ≤ q → A q := fun q h => by rw [← hAe]; exact Or.inr h
  have hS : va_S A s.heap s.heap [] := va_S.rf
  have hl := lv_entry ([.ref ((u 6)), .int v1]) (n := 2) (Nat.le_of_ble_eq_true rfl)
  rw [lg_entry_eq]
  generalize (lg_sl ([.ref ((u 6)), .int v1]) ++ List.replicate (2 - (lg_sl ([.ref ((u 6)), .int v1])).length) Slot.unset).toArray = ls at hl ⊢
  have hl : lv_has ls 2 [(0, .ref ((u 6))), (1, .int v1)] := hl
  rw [m_Output_latest] at hm
  refine lv_iload_n hx hb d_Output_latest_0 rfl (lv_at hl 1 rfl) ?_
  refine lv_if_lt (tgt := 34) hx hb d_Output_latest_1 (by decide) (fun c_1 => ?_) (fun c_1 => ?_)
  · replace hm := if_t c_1 hm
    refine lv_iconst (v := -1) hx hb d_Output_latest_34 (by decide) ?_
    have e3 := re1 hm
    exact W.iret hx hb hr (fun t9 ht hW => ⟨⟨_, (), rfl, e3.symm, trivial⟩, hS.F ht⟩) hS.2.2 d_Output_latest_35
  · replace hm := if_f c_1 hm
    refine lv_iload_n hx hb d_Output_latest_4 rfl (lv_at hl 1 rfl) ?_
    refine lv_aload_n hx hb d_Output_latest_5 rfl (lv_at hl 0 rfl) ?_
    refine va_get (D := (dC, dI)) (ci := 6) (v := .int (i 20)) (C := R_Output) (T := F_Output) (N := 11) hx hb htt iw_Output hown hK hP 6 xo_6 rfl 3 (Nat.le_of_ble_eq_true rfl) (htt _ lk_Output_64) (fun _ h9 => h9) xg_6_3 d_Output_latest_6 ?_
    refine lv_icmp_ge (tgt := 34) hx hb d_Output_latest_9 (by decide) (fun c_2 => ?_) (fun c_2 => ?_)
    · replace hm := if_t c_2 hm
      refine lv_iconst (v := -1) hx hb d_Output_latest_34 (by decide) ?_
      have e3 := re1 hm
      exact W.iret hx hb hr (fun t9 ht hW => ⟨⟨_, (), rfl, e3.symm, trivial⟩, hS.F ht⟩) hS.2.2 d_Output_latest_35
    · replace hm := if_f c_2 hm
      refine lv_aload_n hx hb d_Output_latest_12 rfl (lv_at hl 0 rfl) ?_
      refine va_get (D := (dC, dI)) (ci := 6) (v := .ref ((u 36))) (C := R_Output) (T := F_Output) (N := 11) hx hb htt iw_Output hown hK hP 6 xo_6 rfl 1 (Nat.le_of_ble_eq_true rfl) (htt _ lk_Output_11) (fun _ h9 => h9) xg_6_1 d_Output_latest_13 ?_
      refine lv_aload_n hx hb d_Output_latest_16 rfl (lv_at hl 0 rfl) ?_
      refine va_get (D := (dC, dI)) (ci := 6) (v := .int (i 19)) (C := R_Output) (T := F_Output) (N := 11) hx hb htt iw_Output hown hK hP 6 xo_6 rfl 2 (Nat.le_of_ble_eq_true rfl) (htt _ lk_Output_61) (fun _ h9 => h9) xg_6_2 d_Output_latest_17 ?_
      refine lv_iconst (v := 1) hx hb d_Output_latest_20 (by decide) ?_
      refine lv_isub hx hb d_Output_latest_21 ?_
      refine lv_iload_n hx hb d_Output_latest_22 rfl (lv_at hl 1 rfl) ?_
      refine lv_isub hx hb d_Output_latest_23 ?_
      refine lv_sipush (v := 2000) hx hb d_Output_latest_24 (by decide) ?_
      obtain ⟨r_4, h_3, hm⟩ := ob0_some hm
      have hFc := x_free0 hS hA
      refine va_calli (va_runS (As := [.int (((i 19) - 1) - v1), .int 2000]) (rest := [.ref ((u 36))]) ⟨hx, hb, hml, hown, hts⟩ (x_Math_floorMod l s.heap.size n h_3) (va_cwS 2 hts (tw_GS tw_cons cw_Math_floorMod lk_Output_72 st_Math_floorMod ini_Math) rfl rfl rfl hd_Math_floorMod ⟨Nat.le_of_ble_eq_true rfl, Nat.le_of_ble_eq_true rfl⟩) xpS0 rfl rfl hl.1 rfl (lv_room (Nat.le_of_ble_eq_true rfl)) d_Output_latest_27 ⟨Nat.le_of_ble_eq_true rfl, Nat.le_of_ble_eq_true rfl⟩) hS (fun q _ h => hFc q h) hFc (fun r9 u9 t9 H locs ht hvm e9 hB hz1 hk1 hS => ?_)
      have e9 : r_4 = r9 := e9
      subst e9
      replace hP := x_keep hP hk1
      clear hFc hk1 hz1 hvm hB ht
      obtain ⟨h_5, hm⟩ := ck_some hm
      refine va_iald hx hb hK hP 38 0 twA_26 rfl h_5 d_Output_latest_30 ?_
      refine lv_goto (tgt := 35) hx hb d_Output_latest_31 (by decide) ?_
      have e3 := re1 hm
      exact W.iret hx hb hr (fun t9 ht hW => ⟨⟨_, (), rfl, e3.symm, trivial⟩, hS.F ht⟩) hS.2.2 d_Output_latest_35

def m_Names_globalName (n : Nat) (g : Nat → Nat) (i : Nat → Int32) (a : Nat → Nat → Int32) (v1 : Int32) : Option (Int32) := if v1 < ((0 : Int32)) then some ((-2147483648)) else if ((i 12)) ≤ v1 then some ((-2147483648)) else ck v1 64 (some (a 10 v1.toNatClampNeg))
set_option maxHeartbeats 4000000 in
set_option maxRecDepth 100000 in
theorem x_Names_globalName (l : Launch) (dC : Nat → ClassId) (dI : Nat → Nat → Nat) (cI : ClassId) (adK adV adA u o g : Nat → Nat) (sz : Nat) (n : Nat) {i : Nat → Int32} {a : Nat → Nat → Int32} {v1 : Int32} {r2 : Int32} (hm : m_Names_globalName n g i a v1 = some r2) : Met l y_Names_globalName w_Names_globalName ({ frames := 0, cells := 0, slots := 0, locals := 0 } : Room) (va_Pc [.ref ((u 3)), .int v1] (xEr dC dI cI adK adV adA u o g i a sz)) (va_Qi (xR r2) xT (xN sz)) 0 0 (xN sz) := by
  refine Met.ofW (cc := b_Names_globalName) (maxL := 2) (ret := (some .int)) (by decide) rfl ?_
  intro p e s m args below meth c s₁ B hml hv
  obtain ⟨rfl, hsz, hP, hK, hE⟩ := hv
  have hx := B.exec
  have hb := B.bytes
  have hr := B.returns
  have hts := atoms_spec (ws := w_Names_globalName) B.pre
  have htt : ∀ w ∈ tw_T, w.before _ s = true := fun w h => hts w (List.mem_cons_of_mem _ h)
  have hown : s.vm.findClass R_Names = some m.cls := findClass_of_methodNamed B.named
  have hlocks := B.notSynchronized
  subst hsz
  generalize hAe : xN s.heap.size = A at hE ⊢
  have hA : ∀ q : Nat, s.heap.size ≤ q → A q := fun q h => by rw [← hAe]; exact Or.inr h
  have hS : va_S A s.heap s.heap [] := va_S.rf
  have hl := lv_entry ([.ref ((u 3)), .int v1]) (n := 2) (Nat.le_of_ble_eq_true rfl)
  rw [lg_entry_eq]
  generalize (lg_sl ([.ref ((u 3)), .int v1]) ++ List.replicate (2 - (lg_sl ([.ref ((u 3)), .int v1])).length) Slot.unset).toArray = ls at hl ⊢
  have hl : lv_has ls 2 [(0, .ref ((u 3))), (1, .int v1)] := hl
  rw [m_Names_globalName] at hm
  refine lv_iload_n hx hb d_Names_globalName_0 rfl (lv_at hl 1 rfl) ?_
  refine lv_if_lt (tgt := 21) hx hb d_Names_globalName_1 (by decide) (fun c_1 => ?_) (fun c_1 => ?_)
  · replace hm := if_t c_1 hm
    refine lv_ldc (v := (-2147483648)) hx hb hown (htt _ lk_Names_48) d_Names_globalName_21 ?_
    have e3 := re1 hm
    exact W.iret hx hb hr (fun t9 ht hW => ⟨⟨_, (), rfl, e3.symm, trivial⟩, hS.F ht⟩) hS.2.2 d_Names_globalName_23
  · replace hm := if_f c_1 hm
    refine lv_iload_n hx hb d_Names_globalName_4 rfl (lv_at hl 1 rfl) ?_
    refine lv_aload_n hx hb d_Names_globalName_5 rfl (lv_at hl 0 rfl) ?_
    refine va_get (D := (dC, dI)) (ci := 3) (v := .int (i 12)) (C := R_Names) (T := F_Names) (N := 9) hx hb htt iw_Names hown hK hP 3 xo_3 rfl 3 (Nat.le_of_ble_eq_true rfl) (htt _ lk_Names_41) (fun _ h9 => h9) xg_3_3 d_Names_globalName_6 ?_
    refine lv_icmp_ge (tgt := 21) hx hb d_Names_globalName_9 (by decide) (fun c_2 => ?_) (fun c_2 => ?_)
    · replace hm := if_t c_2 hm
      refine lv_ldc (v := (-2147483648)) hx hb hown (htt _ lk_Names_48) d_Names_globalName_21 ?_
      have e3 := re1 hm
      exact W.iret hx hb hr (fun t9 ht hW => ⟨⟨_, (), rfl, e3.symm, trivial⟩, hS.F ht⟩) hS.2.2 d_Names_globalName_23
    · replace hm := if_f c_2 hm
      refine lv_aload_n hx hb d_Names_globalName_12 rfl (lv_at hl 0 rfl) ?_
      refine va_get (D := (dC, dI)) (ci := 3) (v := .ref ((u 20))) (C := R_Names) (T := F_Names) (N := 9) hx hb htt iw_Names hown hK hP 3 xo_3 rfl 1 (Nat.le_of_ble_eq_true rfl) (htt _ lk_Names_11) (fun _ h9 => h9) xg_3_1 d_Names_globalName_13 ?_
      refine lv_iload_n hx hb d_Names_globalName_16 rfl (lv_at hl 1 rfl) ?_
      obtain ⟨h_3, hm⟩ := ck_some hm
      refine va_iald hx hb hK hP 22 0 twA_10 rfl h_3 d_Names_globalName_17 ?_
      refine lv_goto (tgt := 23) hx hb d_Names_globalName_18 (by decide) ?_
      have e3 := re1 hm
      exact W.iret hx hb hr (fun t9 ht hW => ⟨⟨_, (), rfl, e3.symm, trivial⟩, hS.F ht⟩) hS.2.2 d_Names_globalName_23

def m_Names_globalValue (n : Nat) (g : Nat → Nat) (i : Nat → Int32) (a : Nat → Nat → Int32) (v1 : Int32) : Option (Int32) := if v1 < ((0 : Int32)) then some ((-2147483648)) else if ((i 12)) ≤ v1 then some ((-2147483648)) else ck v1 64 (some (a 11 v1.toNatClampNeg))
set_option maxHeartbeats 4000000 in
set_option maxRecDepth 100000 in
theorem x_Names_globalValue (l : Launch) (dC : Nat → ClassId) (dI : Nat → Nat → Nat) (cI : ClassId) (adK adV adA u o g : Nat → Nat) (sz : Nat) (n : Nat) {i : Nat → Int32} {a : Nat → Nat → Int32} {v1 : Int32} {r2 : Int32} (hm : m_Names_globalValue n g i a v1 = some r2) : Met l y_Names_globalValue w_Names_globalValue ({ frames := 0, cells := 0, slots := 0, locals := 0 } : Room) (va_Pc [.ref ((u 3)), .int v1] (xEr dC dI cI adK adV adA u o g i a sz)) (va_Qi (xR r2) xT (xN sz)) 0 0 (xN sz) := by
  refine Met.ofW (cc := b_Names_globalValue) (maxL := 2) (ret := (some .int)) (by decide) rfl ?_
  intro p e s m args below meth c s₁ B hml hv
  obtain ⟨rfl, hsz, hP, hK, hE⟩ := hv
  have hx := B.exec
  have hb := B.bytes
  have hr := B.returns
  have hts := atoms_spec (ws := w_Names_globalValue) B.pre
  have htt : ∀ w ∈ tw_T, w.before _ s = true := fun w h => hts w (List.mem_cons_of_mem _ h)
  have hown : s.vm.findClass R_Names = some m.cls := findClass_of_methodNamed B.named
  have hlocks := B.notSynchronized
  subst hsz
  generalize hAe : xN s.heap.size = A at hE ⊢
  have hA : ∀ q : Nat, s.heap.size ≤ q → A q := fun q h => by rw [← hAe]; exact Or.inr h
  have hS : va_S A s.heap s.heap [] := va_S.rf
  have hl := lv_entry ([.ref ((u 3)), .int v1]) (n := 2) (Nat.le_of_ble_eq_true rfl)
  rw [lg_entry_eq]
  generalize (lg_sl ([.ref ((u 3)), .int v1]) ++ List.replicate (2 - (lg_sl ([.ref ((u 3)), .int v1])).length) Slot.unset).toArray = ls at hl ⊢
  have hl : lv_has ls 2 [(0, .ref ((u 3))), (1, .int v1)] := hl
  rw [m_Names_globalValue] at hm
  refine lv_iload_n hx hb d_Names_globalValue_0 rfl (lv_at hl 1 rfl) ?_
  refine lv_if_lt (tgt := 21) hx hb d_Names_globalValue_1 (by decide) (fun c_1 => ?_) (fun c_1 => ?_)
  · replace hm := if_t c_1 hm
    refine lv_ldc (v := (-2147483648)) hx hb hown (htt _ lk_Names_48) d_Names_globalValue_21 ?_
    have e3 := re1 hm
    exact W.iret hx hb hr (fun t9 ht hW => ⟨⟨_, (), rfl, e3.symm, trivial⟩, hS.F ht⟩) hS.2.2 d_Names_globalValue_23
  · replace hm := if_f c_1 hm
    refine lv_iload_n hx hb d_Names_globalValue_4 rfl (lv_at hl 1 rfl) ?_
    refine lv_aload_n hx hb d_Names_globalValue_5 rfl (lv_at hl 0 rfl) ?_
    refine va_get (D := (dC, dI)) (ci := 3) (v := .int (i 12)) (C := R_Names) (T := F_Names) (N := 9) hx hb htt iw_Names hown hK hP 3 xo_3 rfl 3 (Nat.le_of_ble_eq_true rfl) (htt _ lk_Names_41) (fun _ h9 => h9) xg_3_3 d_Names_globalValue_6 ?_
    refine lv_icmp_ge (tgt := 21) hx hb d_Names_globalValue_9 (by decide) (fun c_2 => ?_) (fun c_2 => ?_)
    · replace hm := if_t c_2 hm
      refine lv_ldc (v := (-2147483648)) hx hb hown (htt _ lk_Names_48) d_Names_globalValue_21 ?_
      have e3 := re1 hm
      exact W.iret hx hb hr (fun t9 ht hW => ⟨⟨_, (), rfl, e3.symm, trivial⟩, hS.F ht⟩) hS.2.2 d_Names_globalValue_23
    · replace hm := if_f c_2 hm
      refine lv_aload_n hx hb d_Names_globalValue_12 rfl (lv_at hl 0 rfl) ?_
      refine va_get (D := (dC, dI)) (ci := 3) (v := .ref ((u 21))) (C := R_Names) (T := F_Names) (N := 9) hx hb htt iw_Names hown hK hP 3 xo_3 rfl 2 (Nat.le_of_ble_eq_true rfl) (htt _ lk_Names_15) (fun _ h9 => h9) xg_3_2 d_Names_globalValue_13 ?_
      refine lv_iload_n hx hb d_Names_globalValue_16 rfl (lv_at hl 1 rfl) ?_
      obtain ⟨h_3, hm⟩ := ck_some hm
      refine va_iald hx hb hK hP 23 0 twA_11 rfl h_3 d_Names_globalValue_17 ?_
      refine lv_goto (tgt := 23) hx hb d_Names_globalValue_18 (by decide) ?_
      have e3 := re1 hm
      exact W.iret hx hb hr (fun t9 ht hW => ⟨⟨_, (), rfl, e3.symm, trivial⟩, hS.F ht⟩) hS.2.2 d_Names_globalValue_23

def m_Output_signAt (n : Nat) (g : Nat → Nat) (i : Nat → Int32) (a : Nat → Nat → Int32) (v1 : Int32) : Option (Int32) := if v1 < ((0 : Int32)) then some ((-1)) else if ((i 23)) ≤ v1 then some ((-1)) else ck v1 8192 (some (a 28 v1.toNatClampNeg))
set_option maxHeartbeats 4000000 in
set_option maxRecDepth 100000 in
theorem x_Output_signAt (l : Launch) (dC : Nat → ClassId) (dI : Nat → Nat → Nat) (cI : ClassId) (adK adV adA u o g : Nat → Nat) (sz : Nat) (n : Nat) {i : Nat → Int32} {a : Nat → Nat → Int32} {v1 : Int32} {r2 : Int32} (hm : m_Output_signAt n g i a v1 = some r2) : Met l y_Output_signAt w_Output_signAt ({ frames := 0, cells := 0, slots := 0, locals := 0 } : Room) (va_Pc [.ref ((u 6)), .int v1] (xEr dC dI cI adK adV adA u o g i a sz)) (va_Qi (xR r2) xT (xN sz)) 0 0 (xN sz) := by
  refine Met.ofW (cc := b_Output_signAt) (maxL := 2) (ret := (some .int)) (by decide) rfl ?_
  intro p e s m args below meth c s₁ B hml hv
  obtain ⟨rfl, hsz, hP, hK, hE⟩ := hv
  have hx := B.exec
  have hb := B.bytes
  have hr := B.returns
  have hts := atoms_spec (ws := w_Output_signAt) B.pre
  have htt : ∀ w ∈ tw_T, w.before _ s = true := fun w h => hts w (List.mem_cons_of_mem _ h)
  have hown : s.vm.findClass R_Output = some m.cls := findClass_of_methodNamed B.named
  have hlocks := B.notSynchronized
  subst hsz
  generalize hAe : xN s.heap.size = A at hE ⊢
  have hA : ∀ q : Nat, s.heap.size ≤ q → A q := fun q h => by rw [← hAe]; exact Or.inr h
  have hS : va_S A s.heap s.heap [] := va_S.rf
  have hl := lv_entry ([.ref ((u 6)), .int v1]) (n := 2) (Nat.le_of_ble_eq_true rfl)
  rw [lg_entry_eq]
  generalize (lg_sl ([.ref ((u 6)), .int v1]) ++ List.replicate (2 - (lg_sl ([.ref ((u 6)), .int v1])).length) Slot.unset).toArray = ls at hl ⊢
  have hl : lv_has ls 2 [(0, .ref ((u 6))), (1, .int v1)] := hl
  rw [m_Output_signAt] at hm
  refine lv_iload_n hx hb d_Output_signAt_0 rfl (lv_at hl 1 rfl) ?_
  refine lv_if_lt (tgt := 21) hx hb d_Output_signAt_1 (by decide) (fun c_1 => ?_) (fun c_1 => ?_)
  · replace hm := if_t c_1 hm
    refine lv_iconst (v := -1) hx hb d_Output_signAt_21 (by decide) ?_
    have e3 := re1 hm
    exact W.iret hx hb hr (fun t9 ht hW => ⟨⟨_, (), rfl, e3.symm, trivial⟩, hS.F ht⟩) hS.2.2 d_Output_signAt_22
  · replace hm := if_f c_1 hm
    refine lv_iload_n hx hb d_Output_signAt_4 rfl (lv_at hl 1 rfl) ?_
    refine lv_aload_n hx hb d_Output_signAt_5 rfl (lv_at hl 0 rfl) ?_
    refine va_get (D := (dC, dI)) (ci := 6) (v := .int (i 23)) (C := R_Output) (T := F_Output) (N := 11) hx hb htt iw_Output hown hK hP 6 xo_6 rfl 8 (Nat.le_of_ble_eq_true rfl) (htt _ lk_Output_31) (fun _ h9 => h9) xg_6_8 d_Output_signAt_6 ?_
    refine lv_icmp_ge (tgt := 21) hx hb d_Output_signAt_9 (by decide) (fun c_2 => ?_) (fun c_2 => ?_)
    · replace hm := if_t c_2 hm
      refine lv_iconst (v := -1) hx hb d_Output_signAt_21 (by decide) ?_
      have e3 := re1 hm
      exact W.iret hx hb hr (fun t9 ht hW => ⟨⟨_, (), rfl, e3.symm, trivial⟩, hS.F ht⟩) hS.2.2 d_Output_signAt_22
    · replace hm := if_f c_2 hm
      refine lv_aload_n hx hb d_Output_signAt_12 rfl (lv_at hl 0 rfl) ?_
      refine va_get (D := (dC, dI)) (ci := 6) (v := .ref ((u 38))) (C := R_Output) (T := F_Output) (N := 11) hx hb htt iw_Output hown hK hP 6 xo_6 rfl 7 (Nat.le_of_ble_eq_true rfl) (htt _ lk_Output_18) (fun _ h9 => h9) xg_6_7 d_Output_signAt_13 ?_
      refine lv_iload_n hx hb d_Output_signAt_16 rfl (lv_at hl 1 rfl) ?_
      obtain ⟨h_3, hm⟩ := ck_some hm
      refine va_iald hx hb hK hP 40 0 twA_28 rfl h_3 d_Output_signAt_17 ?_
      refine lv_goto (tgt := 22) hx hb d_Output_signAt_18 (by decide) ?_
      have e3 := re1 hm
      exact W.iret hx hb hr (fun t9 ht hW => ⟨⟨_, (), rfl, e3.symm, trivial⟩, hS.F ht⟩) hS.2.2 d_Output_signAt_22

def m_Names_countValues_b38 (n : Nat) (g : Nat → Nat) (i : Nat → Int32) (a : Nat → Nat → Int32) (rc_9 : Int32 → Int32 → Int32 → Option (Int32)) (v2 : Int32) (v3 : Int32) (v4 : Int32) : Option (Int32) := ob1 (v4 + 1 : Int32) (fun x_1 => rc_9 v2 v3 x_1)
set_option maxHeartbeats 4000000 in
set_option maxRecDepth 100000 in
theorem lb_Names_countValues_38 (l : Launch) (dC : Nat → ClassId) (dI : Nat → Nat → Nat) (cI : ClassId) (adK adV adA u o g : Nat → Nat) (n : Nat) {p : Program} {e : Env} {s : State} {m : MethodId} {args : Array Value} {below : List Frame} {meth : Method} {c : Code} {A : Nat → Prop} (hx : p.tables.exec = Jvm.exec) (hb : c.code = b_Names_countValues) (hml : c.maxLocals = 5) (hown : s.vm.findClass R_Names = some m.cls) (hts : ∀ w ∈ w_Names_countValues, w.before args s = true) (hK : va_K (dC, dI) classes [(cI, .int)] s) (hE : tw_E adK adV adA A s s.heap) (hA : ∀ q : Nat, s.heap.size ≤ q → A q) (hr : meth.sig.returnType = (some .int)) (hlocks : meth.locks = false) {i : Nat → Int32} {a : Nat → Nat → Int32} {r2 : Int32} (rc_9 : Int32 → Int32 → Int32 → Option (Int32)) (Hrc_9 : ∀ (v2 : Int32) (v3 : Int32) (v4 : Int32), rc_9 v2 v3 v4 = some r2 → ∀ (H : Heap) (locs : List Loc) (ls : Array Slot), va_P (dC, dI) classes (TW cI u o i a g) H → va_S A s.heap H locs → lv_has ls 5 [(0, .ref ((u 3))), (2, .int v2), (3, .int v3), (4, .int v4)] → W p l e ({ frames := 1, cells := 0, slots := 0, locals := 21 } : Room) s m args below meth c H locs 0 0 (MQ below (va_Qi (xR r2) xT A) args s 0 0 A) (F0 m 9 ls [])) (v2 : Int32) (v3 : Int32) (v4 : Int32) (hm : m_Names_countValues_b38 n g i a rc_9 v2 v3 v4 = some r2) : ∀ (H : Heap) (locs : List Loc) (ls : Array Slot), va_P (dC, dI) classes (TW cI u o i a g) H → va_S A s.heap H locs → lv_has ls 5 [(0, .ref ((u 3))), (2, .int v2), (3, .int v3), (4, .int v4)] → W p l e ({ frames := 1, cells := 0, slots := 0, locals := 21 } : Room) s m args below meth c H locs 0 0 (MQ below (va_Qi (xR r2) xT A) args s 0 0 A) (F0 m 38 ls []) := by
  have htt : ∀ w ∈ tw_T, w.before _ s = true := fun w h => hts w (List.mem_cons_of_mem _ h)
  intro H locs ls hP hS hl
  rw [m_Names_countValues_b38] at hm
  obtain ⟨x_1, ex_1⟩ : ∃ y9 : Int32, y9 = v4 + 1 := ⟨_, rfl⟩
  replace hm := ob1_at ex_1 hm
  refine lv_iinc (v := x_1) (lv' := [(4, .int x_1), (0, .ref ((u 3))), (2, .int v2), (3, .int v3)]) hx hb d_Names_countValues_38 hl (k := 3) rfl (by rw [ex_1]; rfl) (by decide) rfl (fun ls hl => ?_)
  refine lv_goto (tgt := 9) hx hb d_Names_countValues_41 (by decide) ?_
  exact Hrc_9 _ _ _ hm _ _ _ hP hS (lv_sub hl [1, 2, 3, 0] rfl)
def m_Names_countValues_b9 (n : Nat) (g : Nat → Nat) (i : Nat → Int32) (a : Nat → Nat → Int32) : Nat → Int32 → Int32 → Int32 → Option (Int32)
  | 0, _, _, _ => none
  | f + 1, v2, v3, v4 => if v2 ≤ v4 then some v3 else if ((1800 : Int32)) ≤ v4 then some v3 else ck v4 1800 (if ((a 13 v4.toNatClampNeg)) = ((-2147483648 : Int32)) then m_Names_countValues_b38 n g i a (m_Names_countValues_b9 n g i a f) v2 v3 v4 else ob1 (v3 + 1 : Int32) (fun x_5 => m_Names_countValues_b38 n g i a (m_Names_countValues_b9 n g i a f) v2 x_5 v4))
set_option maxHeartbeats 4000000 in
set_option maxRecDepth 100000 in
theorem lb_Names_countValues_9 (l : Launch) (dC : Nat → ClassId) (dI : Nat → Nat → Nat) (cI : ClassId) (adK adV adA u o g : Nat → Nat) (n : Nat) {p : Program} {e : Env} {s : State} {m : MethodId} {args : Array Value} {below : List Frame} {meth : Method} {c : Code} {A : Nat → Prop} (hx : p.tables.exec = Jvm.exec) (hb : c.code = b_Names_countValues) (hml : c.maxLocals = 5) (hown : s.vm.findClass R_Names = some m.cls) (hts : ∀ w ∈ w_Names_countValues, w.before args s = true) (hK : va_K (dC, dI) classes [(cI, .int)] s) (hE : tw_E adK adV adA A s s.heap) (hA : ∀ q : Nat, s.heap.size ≤ q → A q) (hr : meth.sig.returnType = (some .int)) (hlocks : meth.locks = false) {i : Nat → Int32} {a : Nat → Nat → Int32} {r2 : Int32} : ∀ (f : Nat) (v2 : Int32) (v3 : Int32) (v4 : Int32), m_Names_countValues_b9 n g i a f v2 v3 v4 = some r2 → ∀ (H : Heap) (locs : List Loc) (ls : Array Slot), va_P (dC, dI) classes (TW cI u o i a g) H → va_S A s.heap H locs → lv_has ls 5 [(0, .ref ((u 3))), (2, .int v2), (3, .int v3), (4, .int v4)] → W p l e ({ frames := 1, cells := 0, slots := 0, locals := 21 } : Room) s m args below meth c H locs 0 0 (MQ below (va_Qi (xR r2) xT A) args s 0 0 A) (F0 m 9 ls []) := by
  have htt : ∀ w ∈ tw_T, w.before _ s = true := fun w h => hts w (List.mem_cons_of_mem _ h)
  intro f
  induction f with
  | zero =>
    intro v2 v3 v4 hm
    rw [m_Names_countValues_b9] at hm
    cases hm
  | succ f ih =>
    intro v2 v3 v4 hm H locs ls hP hS hl
    rw [m_Names_countValues_b9] at hm
    refine lv_iload hx hb d_Names_countValues_9 (lv_at hl 3 rfl) ?_
    refine lv_iload_n hx hb d_Names_countValues_11 rfl (lv_at hl 1 rfl) ?_
    refine lv_icmp_ge (tgt := 44) hx hb d_Names_countValues_12 (by decide) (fun c_1 => ?_) (fun c_1 => ?_)
    · replace hm := if_t c_1 hm
      refine lv_iload_n hx hb d_Names_countValues_44 rfl (lv_at hl 2 rfl) ?_
      have e3 := re1 hm
      exact W.iret hx hb hr (fun t9 ht hW => ⟨⟨_, (), rfl, e3.symm, trivial⟩, hS.F ht⟩) hS.2.2 d_Names_countValues_45
    · replace hm := if_f c_1 hm
      refine lv_iload hx hb d_Names_countValues_15 (lv_at hl 3 rfl) ?_
      refine lv_sipush (v := 1800) hx hb d_Names_countValues_17 (by decide) ?_
      refine lv_icmp_ge (tgt := 44) hx hb d_Names_countValues_20 (by decide) (fun c_2 => ?_) (fun c_2 => ?_)
      · replace hm := if_t c_2 hm
        refine lv_iload_n hx hb d_Names_countValues_44 rfl (lv_at hl 2 rfl) ?_
        have e3 := re1 hm
        exact W.iret hx hb hr (fun t9 ht hW => ⟨⟨_, (), rfl, e3.symm, trivial⟩, hS.F ht⟩) hS.2.2 d_Names_countValues_45
      · replace hm := if_f c_2 hm
        refine lv_aload_n hx hb d_Names_countValues_23 rfl (lv_at hl 0 rfl) ?_
        refine va_get (D := (dC, dI)) (ci := 3) (v := .ref ((u 23))) (C := R_Names) (T := F_Names) (N := 9) hx hb htt iw_Names hown hK hP 3 xo_3 rfl 5 (Nat.le_of_ble_eq_true rfl) (htt _ lk_Names_21) (fun _ h9 => h9) xg_3_5 d_Names_countValues_24 ?_
        refine lv_iload hx hb d_Names_countValues_27 (lv_at hl 3 rfl) ?_
        obtain ⟨h_3, hm⟩ := ck_some hm
        refine va_iald hx hb hK hP 25 0 twA_13 rfl h_3 d_Names_countValues_29 ?_
        refine lv_ldc (v := (-2147483648)) hx hb hown (htt _ lk_Names_48) d_Names_countValues_30 ?_
        refine lv_icmp_eq (tgt := 38) hx hb d_Names_countValues_32 (by decide) (fun c_4 => ?_) (fun c_4 => ?_)
        · replace hm := if_t c_4 hm
          exact lb_Names_countValues_38 l dC dI cI adK adV adA u o g n hx hb hml hown hts hK hE hA hr hlocks (m_Names_countValues_b9 n g i a f) ih _ _ _ hm _ _ _ hP hS (lv_sub hl [0, 1, 2, 3] rfl)
        · replace hm := if_f c_4 hm
          obtain ⟨x_5, ex_5⟩ : ∃ y9 : Int32, y9 = v3 + 1 := ⟨_, rfl⟩
          replace hm := ob1_at ex_5 hm
          refine lv_iinc (v := x_5) (lv' := [(3, .int x_5), (0, .ref ((u 3))), (2, .int v2), (4, .int v4)]) hx hb d_Names_countValues_35 hl (k := 2) rfl (by rw [ex_5]; rfl) (by decide) rfl (fun ls hl => ?_)
          exact lb_Names_countValues_38 l dC dI cI adK adV adA u o g n hx hb hml hown hts hK hE hA hr hlocks (m_Names_countValues_b9 n g i a f) ih _ _ _ hm _ _ _ hP hS (lv_sub hl [1, 2, 0, 3] rfl)
def m_Names_countValues (n : Nat) (g : Nat → Nat) (i : Nat → Int32) (a : Nat → Nat → Int32) (v1 : Int32) (v2 : Int32) : Option (Int32) := ob0 (m_Math_max n v1 (0 : Int32)) (fun r_2 => m_Names_countValues_b9 n g i a n v2 (0 : Int32) r_2)
set_option maxHeartbeats 4000000 in
set_option maxRecDepth 100000 in
theorem x_Names_countValues (l : Launch) (dC : Nat → ClassId) (dI : Nat → Nat → Nat) (cI : ClassId) (adK adV adA u o g : Nat → Nat) (sz : Nat) (n : Nat) {i : Nat → Int32} {a : Nat → Nat → Int32} {v1 : Int32} {v2 : Int32} {r2 : Int32} (hm : m_Names_countValues n g i a v1 v2 = some r2) : Met l y_Names_countValues w_Names_countValues ({ frames := 1, cells := 0, slots := 0, locals := 21 } : Room) (va_Pc [.ref ((u 3)), .int v1, .int v2] (xEr dC dI cI adK adV adA u o g i a sz)) (va_Qi (xR r2) xT (xN sz)) 0 0 (xN sz) := by
  refine Met.ofW (cc := b_Names_countValues) (maxL := 5) (ret := (some .int)) (by decide) rfl ?_
  intro p e s m args below meth c s₁ B hml hv
  obtain ⟨rfl, hsz, hP, hK, hE⟩ := hv
  have hx := B.exec
  have hb := B.bytes
  have hr := B.returns
  have hts := atoms_spec (ws := w_Names_countValues) B.pre
  have htt : ∀ w ∈ tw_T, w.before _ s = true := fun w h => hts w (List.mem_cons_of_mem _ h)
  have hown : s.vm.findClass R_Names = some m.cls := findClass_of_methodNamed B.named
  have hlocks := B.notSynchronized
  subst hsz
  generalize hAe : xN s.heap.size = A at hE ⊢
  have hA : ∀ q : Nat, s.heap.size ≤ q → A q := fun q h => by rw [← hAe]; exact Or.inr h
  have hS : va_S A s.heap s.heap [] := va_S.rf
  have hl := lv_entry ([.ref ((u 3)), .int v1, .int v2]) (n := 5) (Nat.le_of_ble_eq_true rfl)
  rw [lg_entry_eq]
  generalize (lg_sl ([.ref ((u 3)), .int v1, .int v2]) ++ List.replicate (5 - (lg_sl ([.ref ((u 3)), .int v1, .int v2])).length) Slot.unset).toArray = ls at hl ⊢
  have hl : lv_has ls 5 [(0, .ref ((u 3))), (1, .int v1), (2, .int v2)] := hl
  rw [m_Names_countValues] at hm
  refine lv_iconst (v := 0) hx hb d_Names_countValues_0 (by decide) ?_
  refine lv_istore_n (lv' := [(3, .int 0), (0, .ref ((u 3))), (1, .int v1), (2, .int v2)]) hx hb d_Names_countValues_1 rfl hl (by decide) rfl (fun ls hl => ?_)
  refine lv_iload_n hx hb d_Names_countValues_2 rfl (lv_at hl 2 rfl) ?_
  refine lv_iconst (v := 0) hx hb d_Names_countValues_3 (by decide) ?_
  obtain ⟨r_2, h_1, hm⟩ := ob0_some hm
  have hFc := x_free0 hS hA
  refine va_calli (va_runS (As := [.int v1, .int 0]) (rest := []) ⟨hx, hb, hml, hown, hts⟩ (x_Math_max l s.heap.size n h_1) (va_cwS 2 hts (tw_GS tw_cons cw_Math_max lk_Names_58 st_Math_max ini_Math) rfl rfl rfl hd_Math_max ⟨Nat.le_of_ble_eq_true rfl, Nat.le_of_ble_eq_true rfl⟩) xpS0 rfl rfl hl.1 rfl (lv_room (Nat.le_of_ble_eq_true rfl)) d_Names_countValues_4 ⟨Nat.le_of_ble_eq_true rfl, Nat.le_of_ble_eq_true rfl⟩) hS (fun q _ h => hFc q h) hFc (fun r9 u9 t9 H locs ht hvm e9 hB hz1 hk1 hS => ?_)
  have e9 : r_2 = r9 := e9
  subst e9
  replace hP := x_keep hP hk1
  clear hFc hk1 hz1 hvm hB ht
  refine lv_istore (lv' := [(4, .int r_2), (3, .int 0), (0, .ref ((u 3))), (1, .int v1), (2, .int v2)]) hx hb d_Names_countValues_7 hl (by decide) rfl (fun ls hl => ?_)
  exact lb_Names_countValues_9 l dC dI cI adK adV adA u o g n hx hb hml hown hts hK hE hA hr hlocks n _ _ _ hm _ _ _ hP hS (lv_sub hl [2, 4, 1, 0] rfl)

def m_Turtles_sumUp_b33 (n : Nat) (g : Nat → Nat) (i : Nat → Int32) (a : Nat → Nat → Int32) : Nat → Int32 → Int32 → Option (Int32)
  | 0, _, _ => none
  | f + 1, v1, v2 => if ((nI 56)) ≤ v2 then some v1 else ck v2 56 (ob1 ((31 * v1) + (a 20 v2.toNatClampNeg) : Int32) (fun x_3 => ob1 (v2 + 1 : Int32) (fun x_4 => m_Turtles_sumUp_b33 n g i a f x_3 x_4)))
set_option maxHeartbeats 4000000 in
set_option maxRecDepth 100000 in
theorem lb_Turtles_sumUp_33 (l : Launch) (dC : Nat → ClassId) (dI : Nat → Nat → Nat) (cI : ClassId) (adK adV adA u o g : Nat → Nat) (n : Nat) {p : Program} {e : Env} {s : State} {m : MethodId} {args : Array Value} {below : List Frame} {meth : Method} {c : Code} {A : Nat → Prop} (hx : p.tables.exec = Jvm.exec) (hb : c.code = b_Turtles_sumUp) (hml : c.maxLocals = 3) (hown : s.vm.findClass R_Turtles = some m.cls) (hts : ∀ w ∈ w_Turtles_sumUp, w.before args s = true) (hK : va_K (dC, dI) classes [(cI, .int)] s) (hE : tw_E adK adV adA A s s.heap) (hA : ∀ q : Nat, s.heap.size ≤ q → A q) (hr : meth.sig.returnType = (some .int)) (hlocks : meth.locks = false) {i : Nat → Int32} {a : Nat → Nat → Int32} {r2 : Int32} : ∀ (f : Nat) (v1 : Int32) (v2 : Int32), m_Turtles_sumUp_b33 n g i a f v1 v2 = some r2 → ∀ (H : Heap) (locs : List Loc) (ls : Array Slot), va_P (dC, dI) classes (TW cI u o i a g) H → va_S A s.heap H locs → lv_has ls 3 [(0, .ref ((u 5))), (1, .int v1), (2, .int v2)] → W p l e ({ frames := 0, cells := 0, slots := 0, locals := 0 } : Room) s m args below meth c H locs 0 0 (MQ below (va_Qi (xR r2) xT A) args s 0 0 A) (F0 m 33 ls []) := by
  have htt : ∀ w ∈ tw_T, w.before _ s = true := fun w h => hts w (List.mem_cons_of_mem _ h)
  intro f
  induction f with
  | zero =>
    intro v1 v2 hm
    rw [m_Turtles_sumUp_b33] at hm
    cases hm
  | succ f ih =>
    intro v1 v2 hm H locs ls hP hS hl
    rw [m_Turtles_sumUp_b33] at hm
    refine lv_iload_n hx hb d_Turtles_sumUp_33 rfl (lv_at hl 2 rfl) ?_
    refine lv_aload_n hx hb d_Turtles_sumUp_34 rfl (lv_at hl 0 rfl) ?_
    refine va_get (D := (dC, dI)) (ci := 5) (v := .ref ((u 30))) (C := R_Turtles) (T := F_Turtles) (N := 8) hx hb htt iw_Turtles hown hK hP 5 xo_5 rfl 0 (Nat.le_of_ble_eq_true rfl) (htt _ lk_Turtles_11) (fun _ h9 => h9) xg_5_0 d_Turtles_sumUp_35 ?_
    refine va_alen (v := nI 56) hx hb hK hP 32 0 twA_20 rfl rfl d_Turtles_sumUp_38 ?_
    refine lv_icmp_ge (tgt := 60) hx hb d_Turtles_sumUp_39 (by decide) (fun c_1 => ?_) (fun c_1 => ?_)
    · replace hm := if_t c_1 hm
      refine lv_iload_n hx hb d_Turtles_sumUp_60 rfl (lv_at hl 1 rfl) ?_
      have e3 := re1 hm
      exact W.iret hx hb hr (fun t9 ht hW => ⟨⟨_, (), rfl, e3.symm, trivial⟩, hS.F ht⟩) hS.2.2 d_Turtles_sumUp_61
    · replace hm := if_f c_1 hm
      refine lv_bipush (v := 31) hx hb d_Turtles_sumUp_42 (by decide) ?_
      refine lv_iload_n hx hb d_Turtles_sumUp_44 rfl (lv_at hl 1 rfl) ?_
      refine lv_imul hx hb d_Turtles_sumUp_45 ?_
      refine lv_aload_n hx hb d_Turtles_sumUp_46 rfl (lv_at hl 0 rfl) ?_
      refine va_get (D := (dC, dI)) (ci := 5) (v := .ref ((u 30))) (C := R_Turtles) (T := F_Turtles) (N := 8) hx hb htt iw_Turtles hown hK hP 5 xo_5 rfl 0 (Nat.le_of_ble_eq_true rfl) (htt _ lk_Turtles_11) (fun _ h9 => h9) xg_5_0 d_Turtles_sumUp_47 ?_
      refine lv_iload_n hx hb d_Turtles_sumUp_50 rfl (lv_at hl 2 rfl) ?_
      obtain ⟨h_2, hm⟩ := ck_some hm
      refine va_iald hx hb hK hP 32 0 twA_20 rfl h_2 d_Turtles_sumUp_51 ?_
      refine lv_iadd hx hb d_Turtles_sumUp_52 ?_
      refine lv_topi (fun x_3 ex_3 => ?_)
      replace hm := ob1_at ex_3 hm
      refine lv_istore_n (lv' := [(1, .int x_3), (0, .ref ((u 5))), (2, .int v2)]) hx hb d_Turtles_sumUp_53 rfl hl (by decide) rfl (fun ls hl => ?_)
      obtain ⟨x_4, ex_4⟩ : ∃ y9 : Int32, y9 = v2 + 1 := ⟨_, rfl⟩
      replace hm := ob1_at ex_4 hm
      refine lv_iinc (v := x_4) (lv' := [(2, .int x_4), (1, .int x_3), (0, .ref ((u 5)))]) hx hb d_Turtles_sumUp_54 hl (k := 2) rfl (by rw [ex_4]; rfl) (by decide) rfl (fun ls hl => ?_)
      refine lv_goto (tgt := 33) hx hb d_Turtles_sumUp_57 (by decide) ?_
      exact ih _ _ hm _ _ _ hP hS (lv_sub hl [2, 1, 0] rfl)
def m_Turtles_sumUp_b4 (n : Nat) (g : Nat → Nat) (i : Nat → Int32) (a : Nat → Nat → Int32) : Nat → Int32 → Int32 → Option (Int32)
  | 0, _, _ => none
  | f + 1, v1, v2 => if ((nI 4096)) ≤ v2 then m_Turtles_sumUp_b33 n g i a n v1 (0 : Int32) else ck v2 4096 (ob1 ((31 * v1) + (a 21 v2.toNatClampNeg) : Int32) (fun x_3 => ob1 (v2 + 1 : Int32) (fun x_4 => m_Turtles_sumUp_b4 n g i a f x_3 x_4)))
set_option maxHeartbeats 4000000 in
set_option maxRecDepth 100000 in
theorem lb_Turtles_sumUp_4 (l : Launch) (dC : Nat → ClassId) (dI : Nat → Nat → Nat) (cI : ClassId) (adK adV adA u o g : Nat → Nat) (n : Nat) {p : Program} {e : Env} {s : State} {m : MethodId} {args : Array Value} {below : List Frame} {meth : Method} {c : Code} {A : Nat → Prop} (hx : p.tables.exec = Jvm.exec) (hb : c.code = b_Turtles_sumUp) (hml : c.maxLocals = 3) (hown : s.vm.findClass R_Turtles = some m.cls) (hts : ∀ w ∈ w_Turtles_sumUp, w.before args s = true) (hK : va_K (dC, dI) classes [(cI, .int)] s) (hE : tw_E adK adV adA A s s.heap) (hA : ∀ q : Nat, s.heap.size ≤ q → A q) (hr : meth.sig.returnType = (some .int)) (hlocks : meth.locks = false) {i : Nat → Int32} {a : Nat → Nat → Int32} {r2 : Int32} : ∀ (f : Nat) (v1 : Int32) (v2 : Int32), m_Turtles_sumUp_b4 n g i a f v1 v2 = some r2 → ∀ (H : Heap) (locs : List Loc) (ls : Array Slot), va_P (dC, dI) classes (TW cI u o i a g) H → va_S A s.heap H locs → lv_has ls 3 [(0, .ref ((u 5))), (1, .int v1), (2, .int v2)] → W p l e ({ frames := 0, cells := 0, slots := 0, locals := 0 } : Room) s m args below meth c H locs 0 0 (MQ below (va_Qi (xR r2) xT A) args s 0 0 A) (F0 m 4 ls []) := by
  have htt : ∀ w ∈ tw_T, w.before _ s = true := fun w h => hts w (List.mem_cons_of_mem _ h)
  intro f
  induction f with
  | zero =>
    intro v1 v2 hm
    rw [m_Turtles_sumUp_b4] at hm
    cases hm
  | succ f ih =>
    intro v1 v2 hm H locs ls hP hS hl
    rw [m_Turtles_sumUp_b4] at hm
    refine lv_iload_n hx hb d_Turtles_sumUp_4 rfl (lv_at hl 2 rfl) ?_
    refine lv_aload_n hx hb d_Turtles_sumUp_5 rfl (lv_at hl 0 rfl) ?_
    refine va_get (D := (dC, dI)) (ci := 5) (v := .ref ((u 31))) (C := R_Turtles) (T := F_Turtles) (N := 8) hx hb htt iw_Turtles hown hK hP 5 xo_5 rfl 1 (Nat.le_of_ble_eq_true rfl) (htt _ lk_Turtles_15) (fun _ h9 => h9) xg_5_1 d_Turtles_sumUp_6 ?_
    refine va_alen (v := nI 4096) hx hb hK hP 33 0 twA_21 rfl rfl d_Turtles_sumUp_9 ?_
    refine lv_icmp_ge (tgt := 31) hx hb d_Turtles_sumUp_10 (by decide) (fun c_1 => ?_) (fun c_1 => ?_)
    · replace hm := if_t c_1 hm
      refine lv_iconst (v := 0) hx hb d_Turtles_sumUp_31 (by decide) ?_
      refine lv_istore_n (lv' := [(2, .int 0), (0, .ref ((u 5))), (1, .int v1)]) hx hb d_Turtles_sumUp_32 rfl hl (by decide) rfl (fun ls hl => ?_)
      exact lb_Turtles_sumUp_33 l dC dI cI adK adV adA u o g n hx hb hml hown hts hK hE hA hr hlocks n _ _ hm _ _ _ hP hS (lv_sub hl [1, 2, 0] rfl)
    · replace hm := if_f c_1 hm
      refine lv_bipush (v := 31) hx hb d_Turtles_sumUp_13 (by decide) ?_
      refine lv_iload_n hx hb d_Turtles_sumUp_15 rfl (lv_at hl 1 rfl) ?_
      refine lv_imul hx hb d_Turtles_sumUp_16 ?_
      refine lv_aload_n hx hb d_Turtles_sumUp_17 rfl (lv_at hl 0 rfl) ?_
      refine va_get (D := (dC, dI)) (ci := 5) (v := .ref ((u 31))) (C := R_Turtles) (T := F_Turtles) (N := 8) hx hb htt iw_Turtles hown hK hP 5 xo_5 rfl 1 (Nat.le_of_ble_eq_true rfl) (htt _ lk_Turtles_15) (fun _ h9 => h9) xg_5_1 d_Turtles_sumUp_18 ?_
      refine lv_iload_n hx hb d_Turtles_sumUp_21 rfl (lv_at hl 2 rfl) ?_
      obtain ⟨h_2, hm⟩ := ck_some hm
      refine va_iald hx hb hK hP 33 0 twA_21 rfl h_2 d_Turtles_sumUp_22 ?_
      refine lv_iadd hx hb d_Turtles_sumUp_23 ?_
      refine lv_topi (fun x_3 ex_3 => ?_)
      replace hm := ob1_at ex_3 hm
      refine lv_istore_n (lv' := [(1, .int x_3), (0, .ref ((u 5))), (2, .int v2)]) hx hb d_Turtles_sumUp_24 rfl hl (by decide) rfl (fun ls hl => ?_)
      obtain ⟨x_4, ex_4⟩ : ∃ y9 : Int32, y9 = v2 + 1 := ⟨_, rfl⟩
      replace hm := ob1_at ex_4 hm
      refine lv_iinc (v := x_4) (lv' := [(2, .int x_4), (1, .int x_3), (0, .ref ((u 5)))]) hx hb d_Turtles_sumUp_25 hl (k := 2) rfl (by rw [ex_4]; rfl) (by decide) rfl (fun ls hl => ?_)
      refine lv_goto (tgt := 4) hx hb d_Turtles_sumUp_28 (by decide) ?_
      exact ih _ _ hm _ _ _ hP hS (lv_sub hl [2, 1, 0] rfl)
def m_Turtles_sumUp (n : Nat) (g : Nat → Nat) (i : Nat → Int32) (a : Nat → Nat → Int32)  : Option (Int32) := m_Turtles_sumUp_b4 n g i a n (0 : Int32) (0 : Int32)
set_option maxHeartbeats 4000000 in
set_option maxRecDepth 100000 in
theorem x_Turtles_sumUp (l : Launch) (dC : Nat → ClassId) (dI : Nat → Nat → Nat) (cI : ClassId) (adK adV adA u o g : Nat → Nat) (sz : Nat) (n : Nat) {i : Nat → Int32} {a : Nat → Nat → Int32}  {r2 : Int32} (hm : m_Turtles_sumUp n g i a = some r2) : Met l y_Turtles_sumUp w_Turtles_sumUp ({ frames := 0, cells := 0, slots := 0, locals := 0 } : Room) (va_Pc [.ref ((u 5))] (xEr dC dI cI adK adV adA u o g i a sz)) (va_Qi (xR r2) xT (xN sz)) 0 0 (xN sz) := by
  refine Met.ofW (cc := b_Turtles_sumUp) (maxL := 3) (ret := (some .int)) (by decide) rfl ?_
  intro p e s m args below meth c s₁ B hml hv
  obtain ⟨rfl, hsz, hP, hK, hE⟩ := hv
  have hx := B.exec
  have hb := B.bytes
  have hr := B.returns
  have hts := atoms_spec (ws := w_Turtles_sumUp) B.pre
  have htt : ∀ w ∈ tw_T, w.before _ s = true := fun w h => hts w (List.mem_cons_of_mem _ h)
  have hown : s.vm.findClass R_Turtles = some m.cls := findClass_of_methodNamed B.named
  have hlocks := B.notSynchronized
  subst hsz
  generalize hAe : xN s.heap.size = A at hE ⊢
  have hA : ∀ q : Nat, s.heap.size ≤ q → A q := fun q h => by rw [← hAe]; exact Or.inr h
  have hS : va_S A s.heap s.heap [] := va_S.rf
  have hl := lv_entry ([.ref ((u 5))]) (n := 3) (Nat.le_of_ble_eq_true rfl)
  rw [lg_entry_eq]
  generalize (lg_sl ([.ref ((u 5))]) ++ List.replicate (3 - (lg_sl ([.ref ((u 5))])).length) Slot.unset).toArray = ls at hl ⊢
  have hl : lv_has ls 3 [(0, .ref ((u 5)))] := hl
  rw [m_Turtles_sumUp] at hm
  refine lv_iconst (v := 0) hx hb d_Turtles_sumUp_0 (by decide) ?_
  refine lv_istore_n (lv' := [(1, .int 0), (0, .ref ((u 5)))]) hx hb d_Turtles_sumUp_1 rfl hl (by decide) rfl (fun ls hl => ?_)
  refine lv_iconst (v := 0) hx hb d_Turtles_sumUp_2 (by decide) ?_
  refine lv_istore_n (lv' := [(2, .int 0), (1, .int 0), (0, .ref ((u 5)))]) hx hb d_Turtles_sumUp_3 rfl hl (by decide) rfl (fun ls hl => ?_)
  exact lb_Turtles_sumUp_4 l dC dI cI adK adV adA u o g n hx hb hml hown hts hK hE hA hr hlocks n _ _ hm _ _ _ hP hS (lv_sub hl [2, 1, 0] rfl)

def m_World_feed (n : Nat) (g : Nat → Nat) (i : Nat → Int32) (a : Nat → Nat → Int32) (v1 : Int32) (v2 : Int32) (v3 : Int32) (v4 : Int32) (v5 : Int32) : Option ((Nat → Int32) × (Nat → Nat → Int32) × Int32) := ob0 (m_Reader_hasRoom n g i a) (fun r_2 => if r_2 = ((0 : Int32)) then some (i, a, 0) else ob (m_Reader_addBytes n g i a v1) (fun i_5 a_6 r_7 => ob (m_Reader_addBytes n g i_5 a_6 v2) (fun i_9 a_10 r_11 => ob (m_Reader_addBytes n g i_9 a_10 v3) (fun i_13 a_14 r_15 => ob (m_Reader_addBytes n g i_13 a_14 v4) (fun i_17 a_18 r_19 => ob (m_Reader_addBytes n g i_17 a_18 v5) (fun i_21 a_22 r_23 => some (i_21, a_22, 1)))))))
set_option maxHeartbeats 4000000 in
set_option maxRecDepth 100000 in
theorem x_World_feed (l : Launch) (dC : Nat → ClassId) (dI : Nat → Nat → Nat) (cI : ClassId) (adK adV adA u o g : Nat → Nat) (sz : Nat) (n : Nat) {i : Nat → Int32} {a : Nat → Nat → Int32} {v1 : Int32} {v2 : Int32} {v3 : Int32} {v4 : Int32} {v5 : Int32} {i2 : Nat → Int32} {a2 : Nat → Nat → Int32} {r2 : Int32} (hm : m_World_feed n g i a v1 v2 v3 v4 v5 = some (i2, a2, r2)) : Met l y_World_feed w_World_feed ({ frames := 1, cells := 0, slots := 0, locals := 22 } : Room) (va_Pc [.ref ((u 0)), .int v1, .int v2, .int v3, .int v4, .int v5] (xE dC dI cI adK adV adA u o g i a sz)) (va_Qi (xR r2) (xB dC dI cI u o g i2 a2 (va_A (TW cI u o i a g) sz)) (va_A (TW cI u o i a g) sz)) 0 0 ((va_A (TW cI u o i a g) sz)) := by
  refine Met.ofW (cc := b_World_feed) (maxL := 6) (ret := (some .boolean)) (by decide) rfl ?_
  intro p e s m args below meth c s₁ B hml hv
  obtain ⟨rfl, hsz, hP, hK, hE, hD0⟩ := hv
  have hx := B.exec
  have hb := B.bytes
  have hr := B.returns
  have hts := atoms_spec (ws := w_World_feed) B.pre
  have htt : ∀ w ∈ tw_T, w.before _ s = true := fun w h => hts w (List.mem_cons_of_mem _ h)
  have hown : s.vm.findClass R_World = some m.cls := findClass_of_methodNamed B.named
  have hlocks := B.notSynchronized
  subst hsz
  have hD := hD0.self (sz := s.heap.size)
  generalize hAe : (va_A (TW cI u o i a g) s.heap.size) = A at hD hE ⊢
  have hA : ∀ q : Nat, s.heap.size ≤ q → A q := fun q h => by rw [← hAe]; exact Or.inr h
  have hS : va_S A s.heap s.heap [] := va_S.rf
  have hl := lv_entry ([.ref ((u 0)), .int v1, .int v2, .int v3, .int v4, .int v5]) (n := 6) (Nat.le_of_ble_eq_true rfl)
  rw [lg_entry_eq]
  generalize (lg_sl ([.ref ((u 0)), .int v1, .int v2, .int v3, .int v4, .int v5]) ++ List.replicate (6 - (lg_sl ([.ref ((u 0)), .int v1, .int v2, .int v3, .int v4, .int v5])).length) Slot.unset).toArray = ls at hl ⊢
  have hl : lv_has ls 6 [(0, .ref ((u 0))), (1, .int v1), (2, .int v2), (3, .int v3), (4, .int v4), (5, .int v5)] := hl
  rw [m_World_feed] at hm
  refine lv_aload_n hx hb d_World_feed_0 rfl (lv_at hl 0 rfl) ?_
  refine va_get (D := (dC, dI)) (ci := 0) (v := .ref ((u 7))) (C := R_World) (T := F_World) (N := 13) hx hb htt iw_World hown hK hP 0 xo_0 rfl 5 (Nat.le_of_ble_eq_true rfl) (htt _ lk_World_56) (fun _ h9 => h9) xg_0_5 d_World_feed_1 ?_
  obtain ⟨r_2, h_1, hm⟩ := ob0_some hm
  have hFc := x_free0 hS hA
  refine va_calli (va_runV (As := []) (rest := []) ⟨hx, hb, hml, hown, hts⟩ (x_Reader_hasRoom l dC dI cI adK adV adA u o g s.heap.size n h_1) (cwV 0 hts (tw_GV tw_cons cw_Reader_hasRoom lk_World_88 in_Reader_hasRoom sel_Reader_hasRoom ini_Reader) rfl rfl rfl ⟨rfl, hd_Reader_hasRoom⟩ ⟨Nat.le_of_ble_eq_true rfl, Nat.le_of_ble_eq_true rfl⟩) (xpVr hK hP hS hE hFc xo_7 rfl) rfl rfl hl.1 rfl (lv_room (Nat.le_of_ble_eq_true rfl)) d_World_feed_4 ⟨Nat.le_of_ble_eq_true rfl, Nat.le_of_ble_eq_true rfl⟩) hS (fun q _ h => hFc q h) hFc (fun r9 u9 t9 H locs ht hvm e9 hB hz1 hk1 hS => ?_)
  have e9 : r_2 = r9 := e9
  subst e9
  replace hP := x_keep hP hk1
  clear hFc hk1 hz1 hvm hB ht
  refine lv_if_ne (tgt := 12) hx hb d_World_feed_7 (by decide) (fun c_3 => ?_) (fun c_3 => ?_)
  · replace hm := if_f c_3 hm
    refine lv_aload_n hx hb d_World_feed_12 rfl (lv_at hl 0 rfl) ?_
    refine va_get (D := (dC, dI)) (ci := 0) (v := .ref ((u 7))) (C := R_World) (T := F_World) (N := 13) hx hb htt iw_World hown hK hP 0 xo_0 rfl 5 (Nat.le_of_ble_eq_true rfl) (htt _ lk_World_56) (fun _ h9 => h9) xg_0_5 d_World_feed_13 ?_
    refine lv_iload_n hx hb d_World_feed_16 rfl (lv_at hl 1 rfl) ?_
    obtain ⟨i_5, a_6, r_7, h_4, hm⟩ := ob_some hm
    have hFc := x_free hD hS hA
    refine va_callv (va_runV (As := [.int v1]) (rest := []) ⟨hx, hb, hml, hown, hts⟩ (x_Reader_addBytes l dC dI cI adK adV adA u o g H.size n h_4) (cwV 1 hts (tw_GV tw_cons cw_Reader_addBytes lk_World_92 in_Reader_addBytes sel_Reader_addBytes ini_Reader) rfl rfl rfl ⟨rfl, hd_Reader_addBytes⟩ ⟨Nat.le_of_ble_eq_true rfl, Nat.le_of_ble_eq_true rfl⟩) (xpV hK hP hD hS hE hFc xo_7 rfl) rfl rfl hl.1 rfl (lv_room (Nat.le_of_ble_eq_true rfl)) d_World_feed_17 ⟨Nat.le_of_ble_eq_true rfl, Nat.le_of_ble_eq_true rfl⟩) hS (fun q _ h => hFc q h) hFc (fun u9 t9 H locs ht hvm e9 hB hz1 hk1 hS => ?_)
    obtain ⟨hP, hD⟩ := x_aft hB ht hFc
    clear hFc hk1 hz1 hvm hB ht
    refine lv_aload_n hx hb d_World_feed_20 rfl (lv_at hl 0 rfl) ?_
    refine va_get (D := (dC, dI)) (ci := 0) (v := .ref ((u 7))) (C := R_World) (T := F_World) (N := 13) hx hb htt iw_World hown hK hP 0 xo_0 rfl 5 (Nat.le_of_ble_eq_true rfl) (htt _ lk_World_56) (fun _ h9 => h9) xg_0_5 d_World_feed_21 ?_
    refine lv_iload_n hx hb d_World_feed_24 rfl (lv_at hl 2 rfl) ?_
    obtain ⟨i_9, a_10, r_11, h_8, hm⟩ := ob_some hm
    have hFc := x_free hD hS hA
    refine va_callv (va_runV (As := [.int v2]) (rest := []) ⟨hx, hb, hml, hown, hts⟩ (x_Reader_addBytes l dC dI cI adK adV adA u o g H.size n h_8) (cwV 1 hts (tw_GV tw_cons cw_Reader_addBytes lk_World_92 in_Reader_addBytes sel_Reader_addBytes ini_Reader) rfl rfl rfl ⟨rfl, hd_Reader_addBytes⟩ ⟨Nat.le_of_ble_eq_true rfl, Nat.le_of_ble_eq_true rfl⟩) (xpV hK hP hD hS hE hFc xo_7 rfl) rfl rfl hl.1 rfl (lv_room (Nat.le_of_ble_eq_true rfl)) d_World_feed_25 ⟨Nat.le_of_ble_eq_true rfl, Nat.le_of_ble_eq_true rfl⟩) hS (fun q _ h => hFc q h) hFc (fun u9 t9 H locs ht hvm e9 hB hz1 hk1 hS => ?_)
    obtain ⟨hP, hD⟩ := x_aft hB ht hFc
    clear hFc hk1 hz1 hvm hB ht
    refine lv_aload_n hx hb d_World_feed_28 rfl (lv_at hl 0 rfl) ?_
    refine va_get (D := (dC, dI)) (ci := 0) (v := .ref ((u 7))) (C := R_World) (T := F_World) (N := 13) hx hb htt iw_World hown hK hP 0 xo_0 rfl 5 (Nat.le_of_ble_eq_true rfl) (htt _ lk_World_56) (fun _ h9 => h9) xg_0_5 d_World_feed_29 ?_
    refine lv_iload_n hx hb d_World_feed_32 rfl (lv_at hl 3 rfl) ?_
    obtain ⟨i_13, a_14, r_15, h_12, hm⟩ := ob_some hm
    have hFc := x_free hD hS hA
    refine va_callv (va_runV (As := [.int v3]) (rest := []) ⟨hx, hb, hml, hown, hts⟩ (x_Reader_addBytes l dC dI cI adK adV adA u o g H.size n h_12) (cwV 1 hts (tw_GV tw_cons cw_Reader_addBytes lk_World_92 in_Reader_addBytes sel_Reader_addBytes ini_Reader) rfl rfl rfl ⟨rfl, hd_Reader_addBytes⟩ ⟨Nat.le_of_ble_eq_true rfl, Nat.le_of_ble_eq_true rfl⟩) (xpV hK hP hD hS hE hFc xo_7 rfl) rfl rfl hl.1 rfl (lv_room (Nat.le_of_ble_eq_true rfl)) d_World_feed_33 ⟨Nat.le_of_ble_eq_true rfl, Nat.le_of_ble_eq_true rfl⟩) hS (fun q _ h => hFc q h) hFc (fun u9 t9 H locs ht hvm e9 hB hz1 hk1 hS => ?_)
    obtain ⟨hP, hD⟩ := x_aft hB ht hFc
    clear hFc hk1 hz1 hvm hB ht
    refine lv_aload_n hx hb d_World_feed_36 rfl (lv_at hl 0 rfl) ?_
    refine va_get (D := (dC, dI)) (ci := 0) (v := .ref ((u 7))) (C := R_World) (T := F_World) (N := 13) hx hb htt iw_World hown hK hP 0 xo_0 rfl 5 (Nat.le_of_ble_eq_true rfl) (htt _ lk_World_56) (fun _ h9 => h9) xg_0_5 d_World_feed_37 ?_
    refine lv_iload hx hb d_World_feed_40 (lv_at hl 4 rfl) ?_
    obtain ⟨i_17, a_18, r_19, h_16, hm⟩ := ob_some hm
    have hFc := x_free hD hS hA
    refine va_callv (va_runV (As := [.int v4]) (rest := []) ⟨hx, hb, hml, hown, hts⟩ (x_Reader_addBytes l dC dI cI adK adV adA u o g H.size n h_16) (cwV 1 hts (tw_GV tw_cons cw_Reader_addBytes lk_World_92 in_Reader_addBytes sel_Reader_addBytes ini_Reader) rfl rfl rfl ⟨rfl, hd_Reader_addBytes⟩ ⟨Nat.le_of_ble_eq_true rfl, Nat.le_of_ble_eq_true rfl⟩) (xpV hK hP hD hS hE hFc xo_7 rfl) rfl rfl hl.1 rfl (lv_room (Nat.le_of_ble_eq_true rfl)) d_World_feed_42 ⟨Nat.le_of_ble_eq_true rfl, Nat.le_of_ble_eq_true rfl⟩) hS (fun q _ h => hFc q h) hFc (fun u9 t9 H locs ht hvm e9 hB hz1 hk1 hS => ?_)
    obtain ⟨hP, hD⟩ := x_aft hB ht hFc
    clear hFc hk1 hz1 hvm hB ht
    refine lv_aload_n hx hb d_World_feed_45 rfl (lv_at hl 0 rfl) ?_
    refine va_get (D := (dC, dI)) (ci := 0) (v := .ref ((u 7))) (C := R_World) (T := F_World) (N := 13) hx hb htt iw_World hown hK hP 0 xo_0 rfl 5 (Nat.le_of_ble_eq_true rfl) (htt _ lk_World_56) (fun _ h9 => h9) xg_0_5 d_World_feed_46 ?_
    refine lv_iload hx hb d_World_feed_49 (lv_at hl 5 rfl) ?_
    obtain ⟨i_21, a_22, r_23, h_20, hm⟩ := ob_some hm
    have hFc := x_free hD hS hA
    refine va_callv (va_runV (As := [.int v5]) (rest := []) ⟨hx, hb, hml, hown, hts⟩ (x_Reader_addBytes l dC dI cI adK adV adA u o g H.size n h_20) (cwV 1 hts (tw_GV tw_cons cw_Reader_addBytes lk_World_92 in_Reader_addBytes sel_Reader_addBytes ini_Reader) rfl rfl rfl ⟨rfl, hd_Reader_addBytes⟩ ⟨Nat.le_of_ble_eq_true rfl, Nat.le_of_ble_eq_true rfl⟩) (xpV hK hP hD hS hE hFc xo_7 rfl) rfl rfl hl.1 rfl (lv_room (Nat.le_of_ble_eq_true rfl)) d_World_feed_51 ⟨Nat.le_of_ble_eq_true rfl, Nat.le_of_ble_eq_true rfl⟩) hS (fun q _ h => hFc q h) hFc (fun u9 t9 H locs ht hvm e9 hB hz1 hk1 hS => ?_)
    obtain ⟨hP, hD⟩ := x_aft hB ht hFc
    clear hFc hk1 hz1 hvm hB ht
    refine lv_iconst (v := 1) hx hb d_World_feed_54 (by decide) ?_
    obtain ⟨e1i, e1a, e3⟩ := re3 hm
    obtain ⟨hP, hD⟩ := x_eq e1i e1a hP hD
    exact W.zret hx hb hr (by decide) (fun t9 ht hW => ⟨⟨_, (), rfl, e3.symm, by rw [ht]; exact hP, hD⟩, hS.F ht⟩) hS.2.2 d_World_feed_55
  · replace hm := if_t c_3 hm
    refine lv_iconst (v := 0) hx hb d_World_feed_10 (by decide) ?_
    obtain ⟨e1i, e1a, e3⟩ := re3 hm
    obtain ⟨hP, hD⟩ := x_eq e1i e1a hP hD
    exact W.zret hx hb hr (by decide) (fun t9 ht hW => ⟨⟨_, (), rfl, e3.symm, by rw [ht]; exact hP, hD⟩, hS.F ht⟩) hS.2.2 d_World_feed_11

def m_World_end (n : Nat) (g : Nat → Nat) (i : Nat → Int32) (a : Nat → Nat → Int32) (v1 : Int32) : Option ((Nat → Int32) × (Nat → Nat → Int32) × Int32) := ob (m_Reader_cut n g i a v1) (fun i_2 a_3 r_4 => cb r_4 (some (i_2, a_3, r_4)))
set_option maxHeartbeats 4000000 in
set_option maxRecDepth 100000 in
theorem x_World_end (l : Launch) (dC : Nat → ClassId) (dI : Nat → Nat → Nat) (cI : ClassId) (adK adV adA u o g : Nat → Nat) (sz : Nat) (n : Nat) {i : Nat → Int32} {a : Nat → Nat → Int32} {v1 : Int32} {i2 : Nat → Int32} {a2 : Nat → Nat → Int32} {r2 : Int32} (hm : m_World_end n g i a v1 = some (i2, a2, r2)) : Met l y_World_end w_World_end ({ frames := 1, cells := 0, slots := 0, locals := 21 } : Room) (va_Pc [.ref ((u 0)), .int v1] (xE dC dI cI adK adV adA u o g i a sz)) (va_Qi (xR r2) (xB dC dI cI u o g i2 a2 (va_A (TW cI u o i a g) sz)) (va_A (TW cI u o i a g) sz)) 0 0 ((va_A (TW cI u o i a g) sz)) := by
  refine Met.ofW (cc := b_World_end) (maxL := 2) (ret := (some .boolean)) (by decide) rfl ?_
  intro p e s m args below meth c s₁ B hml hv
  obtain ⟨rfl, hsz, hP, hK, hE, hD0⟩ := hv
  have hx := B.exec
  have hb := B.bytes
  have hr := B.returns
  have hts := atoms_spec (ws := w_World_end) B.pre
  have htt : ∀ w ∈ tw_T, w.before _ s = true := fun w h => hts w (List.mem_cons_of_mem _ h)
  have hown : s.vm.findClass R_World = some m.cls := findClass_of_methodNamed B.named
  have hlocks := B.notSynchronized
  subst hsz
  have hD := hD0.self (sz := s.heap.size)
  generalize hAe : (va_A (TW cI u o i a g) s.heap.size) = A at hD hE ⊢
  have hA : ∀ q : Nat, s.heap.size ≤ q → A q := fun q h => by rw [← hAe]; exact Or.inr h
  have hS : va_S A s.heap s.heap [] := va_S.rf
  have hl := lv_entry ([.ref ((u 0)), .int v1]) (n := 2) (Nat.le_of_ble_eq_true rfl)
  rw [lg_entry_eq]
  generalize (lg_sl ([.ref ((u 0)), .int v1]) ++ List.replicate (2 - (lg_sl ([.ref ((u 0)), .int v1])).length) Slot.unset).toArray = ls at hl ⊢
  have hl : lv_has ls 2 [(0, .ref ((u 0))), (1, .int v1)] := hl
  rw [m_World_end] at hm
  refine lv_aload_n hx hb d_World_end_0 rfl (lv_at hl 0 rfl) ?_
  refine va_get (D := (dC, dI)) (ci := 0) (v := .ref ((u 7))) (C := R_World) (T := F_World) (N := 13) hx hb htt iw_World hown hK hP 0 xo_0 rfl 5 (Nat.le_of_ble_eq_true rfl) (htt _ lk_World_56) (fun _ h9 => h9) xg_0_5 d_World_end_1 ?_
  refine lv_iload_n hx hb d_World_end_4 rfl (lv_at hl 1 rfl) ?_
  obtain ⟨i_2, a_3, r_4, h_1, hm⟩ := ob_some hm
  have hFc := x_free hD hS hA
  refine va_calli (va_runV (As := [.int v1]) (rest := []) ⟨hx, hb, hml, hown, hts⟩ (x_Reader_cut l dC dI cI adK adV adA u o g s.heap.size n h_1) (cwV 1 hts (tw_GV tw_cons cw_Reader_cut lk_World_96 in_Reader_cut sel_Reader_cut ini_Reader) rfl rfl rfl ⟨rfl, hd_Reader_cut⟩ ⟨Nat.le_of_ble_eq_true rfl, Nat.le_of_ble_eq_true rfl⟩) (xpV hK hP hD hS hE hFc xo_7 rfl) rfl rfl hl.1 rfl (lv_room (Nat.le_of_ble_eq_true rfl)) d_World_end_5 ⟨Nat.le_of_ble_eq_true rfl, Nat.le_of_ble_eq_true rfl⟩) hS (fun q _ h => hFc q h) hFc (fun r9 u9 t9 H locs ht hvm e9 hB hz1 hk1 hS => ?_)
  have e9 : r_4 = r9 := e9
  subst e9
  obtain ⟨hP, hD⟩ := x_aft hB ht hFc
  clear hFc hk1 hz1 hvm hB ht
  obtain ⟨h_5, h_5f, hm⟩ := cb_some hm
  obtain ⟨e1i, e1a, e3⟩ := re3 hm
  obtain ⟨hP, hD⟩ := x_eq e1i e1a hP hD
  exact W.zret hx hb hr h_5 (fun t9 ht hW => ⟨⟨_, (), rfl, e3.symm, by rw [ht]; exact hP, hD⟩, hS.F ht⟩) hS.2.2 d_World_end_8

def m_Reader_isAlone (n : Nat) (v0 : Int32) : Option (Int32) := if v0 = ((91 : Int32)) then some 1 else if v0 = ((93 : Int32)) then some 1 else if v0 = ((40 : Int32)) then some 1 else if v0 = ((41 : Int32)) then some 1 else ob0 (m_Reader_isSign n v0) (fun r_6 => if r_6 = ((0 : Int32)) then some 0 else if v0 = ((45 : Int32)) then some 0 else some 1)
set_option maxHeartbeats 4000000 in
set_option maxRecDepth 100000 in
theorem x_Reader_isAlone (l : Launch) (sz : Nat) (n : Nat) {v0 : Int32} {r2 : Int32} (hm : m_Reader_isAlone n v0 = some r2) : Met l y_Reader_isAlone w_Reader_isAlone ({ frames := 1, cells := 0, slots := 0, locals := 20 } : Room) (va_Pc [.int v0] (xE0 sz)) (va_Qi (xR r2) xT (xN sz)) 0 0 (xN sz) := by
  refine Met.ofW (cc := b_Reader_isAlone) (maxL := 1) (ret := (some .boolean)) (by decide) rfl ?_
  intro p e s m args below meth c s₁ B hml hv
  obtain ⟨rfl, hsz⟩ := hv
  have hx := B.exec
  have hb := B.bytes
  have hr := B.returns
  have hts := atoms_spec (ws := w_Reader_isAlone) B.pre
  have htt : ∀ w ∈ tw_T, w.before _ s = true := fun w h => hts w (List.mem_cons_of_mem _ h)
  have hown : s.vm.findClass R_Reader = some m.cls := findClass_of_methodNamed B.named
  have hlocks := B.notSynchronized
  subst hsz
  generalize hAe : xN s.heap.size = A
  have hA : ∀ q : Nat, s.heap.size ≤ q → A q := fun q h => by rw [← hAe]; exact Or.inr h
  have hS : va_S A s.heap s.heap [] := va_S.rf
  have hl := lv_entry ([.int v0]) (n := 1) (Nat.le_of_ble_eq_true rfl)
  rw [lg_entry_eq]
  generalize (lg_sl ([.int v0]) ++ List.replicate (1 - (lg_sl ([.int v0])).length) Slot.unset).toArray = ls at hl ⊢
  have hl : lv_has ls 1 [(0, .int v0)] := hl
  rw [m_Reader_isAlone] at hm
  refine lv_iload_n hx hb d_Reader_isAlone_0 rfl (lv_at hl 0 rfl) ?_
  refine lv_bipush (v := 91) hx hb d_Reader_isAlone_1 (by decide) ?_
  refine lv_icmp_eq (tgt := 37) hx hb d_Reader_isAlone_3 (by decide) (fun c_1 => ?_) (fun c_1 => ?_)
  · replace hm := if_t c_1 hm
    refine lv_iconst (v := 1) hx hb d_Reader_isAlone_37 (by decide) ?_
    refine lv_goto (tgt := 42) hx hb d_Reader_isAlone_38 (by decide) ?_
    have e3 := re1 hm
    exact W.zret hx hb hr (by decide) (fun t9 ht hW => ⟨⟨_, (), rfl, e3.symm, trivial⟩, hS.F ht⟩) hS.2.2 d_Reader_isAlone_42
  · replace hm := if_f c_1 hm
    refine lv_iload_n hx hb d_Reader_isAlone_6 rfl (lv_at hl 0 rfl) ?_
    refine lv_bipush (v := 93) hx hb d_Reader_isAlone_7 (by decide) ?_
    refine lv_icmp_eq (tgt := 37) hx hb d_Reader_isAlone_9 (by decide) (fun c_2 => ?_) (fun c_2 => ?_)
    · replace hm := if_t c_2 hm
      refine lv_iconst (v := 1) hx hb d_Reader_isAlone_37 (by decide) ?_
      refine lv_goto (tgt := 42) hx hb d_Reader_isAlone_38 (by decide) ?_
      have e3 := re1 hm
      exact W.zret hx hb hr (by decide) (fun t9 ht hW => ⟨⟨_, (), rfl, e3.symm, trivial⟩, hS.F ht⟩) hS.2.2 d_Reader_isAlone_42
    · replace hm := if_f c_2 hm
      refine lv_iload_n hx hb d_Reader_isAlone_12 rfl (lv_at hl 0 rfl) ?_
      refine lv_bipush (v := 40) hx hb d_Reader_isAlone_13 (by decide) ?_
      refine lv_icmp_eq (tgt := 37) hx hb d_Reader_isAlone_15 (by decide) (fun c_3 => ?_) (fun c_3 => ?_)
      · replace hm := if_t c_3 hm
        refine lv_iconst (v := 1) hx hb d_Reader_isAlone_37 (by decide) ?_
        refine lv_goto (tgt := 42) hx hb d_Reader_isAlone_38 (by decide) ?_
        have e3 := re1 hm
        exact W.zret hx hb hr (by decide) (fun t9 ht hW => ⟨⟨_, (), rfl, e3.symm, trivial⟩, hS.F ht⟩) hS.2.2 d_Reader_isAlone_42
      · replace hm := if_f c_3 hm
        refine lv_iload_n hx hb d_Reader_isAlone_18 rfl (lv_at hl 0 rfl) ?_
        refine lv_bipush (v := 41) hx hb d_Reader_isAlone_19 (by decide) ?_
        refine lv_icmp_eq (tgt := 37) hx hb d_Reader_isAlone_21 (by decide) (fun c_4 => ?_) (fun c_4 => ?_)
        · replace hm := if_t c_4 hm
          refine lv_iconst (v := 1) hx hb d_Reader_isAlone_37 (by decide) ?_
          refine lv_goto (tgt := 42) hx hb d_Reader_isAlone_38 (by decide) ?_
          have e3 := re1 hm
          exact W.zret hx hb hr (by decide) (fun t9 ht hW => ⟨⟨_, (), rfl, e3.symm, trivial⟩, hS.F ht⟩) hS.2.2 d_Reader_isAlone_42
        · replace hm := if_f c_4 hm
          refine lv_iload_n hx hb d_Reader_isAlone_24 rfl (lv_at hl 0 rfl) ?_
          obtain ⟨r_6, h_5, hm⟩ := ob0_some hm
          have hFc := x_free0 hS hA
          refine va_calli (va_runS (As := [.int v0]) (rest := []) ⟨hx, hb, hml, hown, hts⟩ (x_Reader_isSign l s.heap.size n h_5) (va_cwS 1 hts (tw_GS tw_cons cw_Reader_isSign lk_Reader_93 st_Reader_isSign ini_Reader) rfl rfl rfl hd_Reader_isSign ⟨Nat.le_of_ble_eq_true rfl, Nat.le_of_ble_eq_true rfl⟩) xpS0 rfl rfl hl.1 rfl (lv_room (Nat.le_of_ble_eq_true rfl)) d_Reader_isAlone_25 ⟨Nat.le_of_ble_eq_true rfl, Nat.le_of_ble_eq_true rfl⟩) hS (fun q _ h => hFc q h) hFc (fun r9 u9 t9 H locs ht hvm e9 hB hz1 hk1 hS => ?_)
          have e9 : r_6 = r9 := e9
          subst e9
          clear hFc hk1 hz1 hvm hB ht
          refine lv_if_eq (tgt := 41) hx hb d_Reader_isAlone_28 (by decide) (fun c_7 => ?_) (fun c_7 => ?_)
          · replace hm := if_t c_7 hm
            refine lv_iconst (v := 0) hx hb d_Reader_isAlone_41 (by decide) ?_
            have e3 := re1 hm
            exact W.zret hx hb hr (by decide) (fun t9 ht hW => ⟨⟨_, (), rfl, e3.symm, trivial⟩, hS.F ht⟩) hS.2.2 d_Reader_isAlone_42
          · replace hm := if_f c_7 hm
            refine lv_iload_n hx hb d_Reader_isAlone_31 rfl (lv_at hl 0 rfl) ?_
            refine lv_bipush (v := 45) hx hb d_Reader_isAlone_32 (by decide) ?_
            refine lv_icmp_eq (tgt := 41) hx hb d_Reader_isAlone_34 (by decide) (fun c_8 => ?_) (fun c_8 => ?_)
            · replace hm := if_t c_8 hm
              refine lv_iconst (v := 0) hx hb d_Reader_isAlone_41 (by decide) ?_
              have e3 := re1 hm
              exact W.zret hx hb hr (by decide) (fun t9 ht hW => ⟨⟨_, (), rfl, e3.symm, trivial⟩, hS.F ht⟩) hS.2.2 d_Reader_isAlone_42
            · replace hm := if_f c_8 hm
              refine lv_iconst (v := 1) hx hb d_Reader_isAlone_37 (by decide) ?_
              refine lv_goto (tgt := 42) hx hb d_Reader_isAlone_38 (by decide) ?_
              have e3 := re1 hm
              exact W.zret hx hb hr (by decide) (fun t9 ht hW => ⟨⟨_, (), rfl, e3.symm, trivial⟩, hS.F ht⟩) hS.2.2 d_Reader_isAlone_42

def m_Reader_beginsNumber_b43 (n : Nat) (g : Nat → Nat) (i : Nat → Int32) (a : Nat → Nat → Int32) (s0 : Int32) : Option (Int32) := if s0 = ((10 : Int32)) then some 1 else if s0 = ((32 : Int32)) then some 1 else if s0 = ((91 : Int32)) then some 1 else if s0 = ((40 : Int32)) then some 1 else ob0 (m_Reader_isSign n s0) (fun r_6 => if r_6 = ((0 : Int32)) then some 0 else some 1)
set_option maxHeartbeats 4000000 in
set_option maxRecDepth 100000 in
theorem lb_Reader_beginsNumber_43 (l : Launch) (dC : Nat → ClassId) (dI : Nat → Nat → Nat) (cI : ClassId) (adK adV adA u o g : Nat → Nat) (n : Nat) {p : Program} {e : Env} {s : State} {m : MethodId} {args : Array Value} {below : List Frame} {meth : Method} {c : Code} {A : Nat → Prop} (hx : p.tables.exec = Jvm.exec) (hb : c.code = b_Reader_beginsNumber) (hml : c.maxLocals = 3) (hown : s.vm.findClass R_Reader = some m.cls) (hts : ∀ w ∈ w_Reader_beginsNumber, w.before args s = true) (hK : va_K (dC, dI) classes [(cI, .int)] s) (hE : tw_E adK adV adA A s s.heap) (hA : ∀ q : Nat, s.heap.size ≤ q → A q) (hr : meth.sig.returnType = (some .boolean)) (hlocks : meth.locks = false) {i : Nat → Int32} {a : Nat → Nat → Int32} {r2 : Int32} (s0 : Int32) (hm : m_Reader_beginsNumber_b43 n g i a s0 = some r2) : ∀ (H : Heap) (locs : List Loc) (ls : Array Slot), va_P (dC, dI) classes (TW cI u o i a g) H → va_S A s.heap H locs → lv_has ls 3 [] → W p l e ({ frames := 1, cells := 0, slots := 0, locals := 20 } : Room) s m args below meth c H locs 0 0 (MQ below (va_Qi (xR r2) xT A) args s 0 0 A) (F0 m 43 ls [.int s0]) := by
  have htt : ∀ w ∈ tw_T, w.before _ s = true := fun w h => hts w (List.mem_cons_of_mem _ h)
  intro H locs ls hP hS hl
  rw [m_Reader_beginsNumber_b43] at hm
  refine lv_istore_n (lv' := [(2, .int s0)]) hx hb d_Reader_beginsNumber_43 rfl hl (by decide) rfl (fun ls hl => ?_)
  refine lv_iload_n hx hb d_Reader_beginsNumber_44 rfl (lv_at hl 0 rfl) ?_
  refine lv_bipush (v := 10) hx hb d_Reader_beginsNumber_45 (by decide) ?_
  refine lv_icmp_eq (tgt := 75) hx hb d_Reader_beginsNumber_47 (by decide) (fun c_1 => ?_) (fun c_1 => ?_)
  · replace hm := if_t c_1 hm
    refine lv_iconst (v := 1) hx hb d_Reader_beginsNumber_75 (by decide) ?_
    refine lv_goto (tgt := 80) hx hb d_Reader_beginsNumber_76 (by decide) ?_
    have e3 := re1 hm
    exact W.zret hx hb hr (by decide) (fun t9 ht hW => ⟨⟨_, (), rfl, e3.symm, trivial⟩, hS.F ht⟩) hS.2.2 d_Reader_beginsNumber_80
  · replace hm := if_f c_1 hm
    refine lv_iload_n hx hb d_Reader_beginsNumber_50 rfl (lv_at hl 0 rfl) ?_
    refine lv_bipush (v := 32) hx hb d_Reader_beginsNumber_51 (by decide) ?_
    refine lv_icmp_eq (tgt := 75) hx hb d_Reader_beginsNumber_53 (by decide) (fun c_2 => ?_) (fun c_2 => ?_)
    · replace hm := if_t c_2 hm
      refine lv_iconst (v := 1) hx hb d_Reader_beginsNumber_75 (by decide) ?_
      refine lv_goto (tgt := 80) hx hb d_Reader_beginsNumber_76 (by decide) ?_
      have e3 := re1 hm
      exact W.zret hx hb hr (by decide) (fun t9 ht hW => ⟨⟨_, (), rfl, e3.symm, trivial⟩, hS.F ht⟩) hS.2.2 d_Reader_beginsNumber_80
    · replace hm := if_f c_2 hm
      refine lv_iload_n hx hb d_Reader_beginsNumber_56 rfl (lv_at hl 0 rfl) ?_
      refine lv_bipush (v := 91) hx hb d_Reader_beginsNumber_57 (by decide) ?_
      refine lv_icmp_eq (tgt := 75) hx hb d_Reader_beginsNumber_59 (by decide) (fun c_3 => ?_) (fun c_3 => ?_)
      · replace hm := if_t c_3 hm
        refine lv_iconst (v := 1) hx hb d_Reader_beginsNumber_75 (by decide) ?_
        refine lv_goto (tgt := 80) hx hb d_Reader_beginsNumber_76 (by decide) ?_
        have e3 := re1 hm
        exact W.zret hx hb hr (by decide) (fun t9 ht hW => ⟨⟨_, (), rfl, e3.symm, trivial⟩, hS.F ht⟩) hS.2.2 d_Reader_beginsNumber_80
      · replace hm := if_f c_3 hm
        refine lv_iload_n hx hb d_Reader_beginsNumber_62 rfl (lv_at hl 0 rfl) ?_
        refine lv_bipush (v := 40) hx hb d_Reader_beginsNumber_63 (by decide) ?_
        refine lv_icmp_eq (tgt := 75) hx hb d_Reader_beginsNumber_65 (by decide) (fun c_4 => ?_) (fun c_4 => ?_)
        · replace hm := if_t c_4 hm
          refine lv_iconst (v := 1) hx hb d_Reader_beginsNumber_75 (by decide) ?_
          refine lv_goto (tgt := 80) hx hb d_Reader_beginsNumber_76 (by decide) ?_
          have e3 := re1 hm
          exact W.zret hx hb hr (by decide) (fun t9 ht hW => ⟨⟨_, (), rfl, e3.symm, trivial⟩, hS.F ht⟩) hS.2.2 d_Reader_beginsNumber_80
        · replace hm := if_f c_4 hm
          refine lv_iload_n hx hb d_Reader_beginsNumber_68 rfl (lv_at hl 0 rfl) ?_
          obtain ⟨r_6, h_5, hm⟩ := ob0_some hm
          have hFc := x_free0 hS hA
          refine va_calli (va_runS (As := [.int s0]) (rest := []) ⟨hx, hb, hml, hown, hts⟩ (x_Reader_isSign l H.size n h_5) (va_cwS 1 hts (tw_GS tw_cons cw_Reader_isSign lk_Reader_93 st_Reader_isSign ini_Reader) rfl rfl rfl hd_Reader_isSign ⟨Nat.le_of_ble_eq_true rfl, Nat.le_of_ble_eq_true rfl⟩) xpS0 rfl rfl hl.1 rfl (lv_room (Nat.le_of_ble_eq_true rfl)) d_Reader_beginsNumber_69 ⟨Nat.le_of_ble_eq_true rfl, Nat.le_of_ble_eq_true rfl⟩) hS (fun q _ h => hFc q h) hFc (fun r9 u9 t9 H locs ht hvm e9 hB hz1 hk1 hS => ?_)
          have e9 : r_6 = r9 := e9
          subst e9
          replace hP := x_keep hP hk1
          clear hFc hk1 hz1 hvm hB ht
          refine lv_if_eq (tgt := 79) hx hb d_Reader_beginsNumber_72 (by decide) (fun c_7 => ?_) (fun c_7 => ?_)
          · replace hm := if_t c_7 hm
            refine lv_iconst (v := 0) hx hb d_Reader_beginsNumber_79 (by decide) ?_
            have e3 := re1 hm
            exact W.zret hx hb hr (by decide) (fun t9 ht hW => ⟨⟨_, (), rfl, e3.symm, trivial⟩, hS.F ht⟩) hS.2.2 d_Reader_beginsNumber_80
          · replace hm := if_f c_7 hm
            refine lv_iconst (v := 1) hx hb d_Reader_beginsNumber_75 (by decide) ?_
            refine lv_goto (tgt := 80) hx hb d_Reader_beginsNumber_76 (by decide) ?_
            have e3 := re1 hm
            exact W.zret hx hb hr (by decide) (fun t9 ht hW => ⟨⟨_, (), rfl, e3.symm, trivial⟩, hS.F ht⟩) hS.2.2 d_Reader_beginsNumber_80
def m_Reader_beginsNumber (n : Nat) (g : Nat → Nat) (i : Nat → Int32) (a : Nat → Nat → Int32) (v1 : Int32) : Option (Int32) := if ((i 24)) ≤ ((v1 + 1)) then some 0 else ck ((v1 + 1)) 4000 (ob0 (m_Reader_isDigit n (a 31 (v1 + 1).toNatClampNeg)) (fun r_4 => if r_4 = ((0 : Int32)) then some 0 else if v1 = ((0 : Int32)) then m_Reader_beginsNumber_b43 n g i a (32 : Int32) else ck ((v1 - 1)) 4000 (m_Reader_beginsNumber_b43 n g i a (a 31 (v1 - 1).toNatClampNeg))))
set_option maxHeartbeats 4000000 in
set_option maxRecDepth 100000 in
theorem x_Reader_beginsNumber (l : Launch) (dC : Nat → ClassId) (dI : Nat → Nat → Nat) (cI : ClassId) (adK adV adA u o g : Nat → Nat) (sz : Nat) (n : Nat) {i : Nat → Int32} {a : Nat → Nat → Int32} {v1 : Int32} {r2 : Int32} (hm : m_Reader_beginsNumber n g i a v1 = some r2) : Met l y_Reader_beginsNumber w_Reader_beginsNumber ({ frames := 1, cells := 0, slots := 0, locals := 20 } : Room) (va_Pc [.ref ((u 7)), .int v1] (xEr dC dI cI adK adV adA u o g i a sz)) (va_Qi (xR r2) xT (xN sz)) 0 0 (xN sz) := by
  refine Met.ofW (cc := b_Reader_beginsNumber) (maxL := 3) (ret := (some .boolean)) (by decide) rfl ?_
  intro p e s m args below meth c s₁ B hml hv
  obtain ⟨rfl, hsz, hP, hK, hE⟩ := hv
  have hx := B.exec
  have hb := B.bytes
  have hr := B.returns
  have hts := atoms_spec (ws := w_Reader_beginsNumber) B.pre
  have htt : ∀ w ∈ tw_T, w.before _ s = true := fun w h => hts w (List.mem_cons_of_mem _ h)
  have hown : s.vm.findClass R_Reader = some m.cls := findClass_of_methodNamed B.named
  have hlocks := B.notSynchronized
  subst hsz
  generalize hAe : xN s.heap.size = A at hE ⊢
  have hA : ∀ q : Nat, s.heap.size ≤ q → A q := fun q h => by rw [← hAe]; exact Or.inr h
  have hS : va_S A s.heap s.heap [] := va_S.rf
  have hl := lv_entry ([.ref ((u 7)), .int v1]) (n := 3) (Nat.le_of_ble_eq_true rfl)
  rw [lg_entry_eq]
  generalize (lg_sl ([.ref ((u 7)), .int v1]) ++ List.replicate (3 - (lg_sl ([.ref ((u 7)), .int v1])).length) Slot.unset).toArray = ls at hl ⊢
  have hl : lv_has ls 3 [(0, .ref ((u 7))), (1, .int v1)] := hl
  rw [m_Reader_beginsNumber] at hm
  refine lv_iload_n hx hb d_Reader_beginsNumber_0 rfl (lv_at hl 1 rfl) ?_
  refine lv_iconst (v := 1) hx hb d_Reader_beginsNumber_1 (by decide) ?_
  refine lv_iadd hx hb d_Reader_beginsNumber_2 ?_
  refine lv_aload_n hx hb d_Reader_beginsNumber_3 rfl (lv_at hl 0 rfl) ?_
  refine va_get (D := (dC, dI)) (ci := 7) (v := .int (i 24)) (C := R_Reader) (T := F_Reader) (N := 19) hx hb htt iw_Reader hown hK hP 7 xo_7 rfl 3 (Nat.le_of_ble_eq_true rfl) (htt _ lk_Reader_38) (fun _ h9 => h9) xg_7_3 d_Reader_beginsNumber_4 ?_
  refine lv_icmp_ge (tgt := 24) hx hb d_Reader_beginsNumber_7 (by decide) (fun c_1 => ?_) (fun c_1 => ?_)
  · replace hm := if_t c_1 hm
    refine lv_iconst (v := 0) hx hb d_Reader_beginsNumber_24 (by decide) ?_
    have e3 := re1 hm
    exact W.zret hx hb hr (by decide) (fun t9 ht hW => ⟨⟨_, (), rfl, e3.symm, trivial⟩, hS.F ht⟩) hS.2.2 d_Reader_beginsNumber_25
  · replace hm := if_f c_1 hm
    refine lv_aload_n hx hb d_Reader_beginsNumber_10 rfl (lv_at hl 0 rfl) ?_
    refine va_get (D := (dC, dI)) (ci := 7) (v := .ref ((u 41))) (C := R_Reader) (T := F_Reader) (N := 19) hx hb htt iw_Reader hown hK hP 7 xo_7 rfl 2 (Nat.le_of_ble_eq_true rfl) (htt _ lk_Reader_11) (fun _ h9 => h9) xg_7_2 d_Reader_beginsNumber_11 ?_
    refine lv_iload_n hx hb d_Reader_beginsNumber_14 rfl (lv_at hl 1 rfl) ?_
    refine lv_iconst (v := 1) hx hb d_Reader_beginsNumber_15 (by decide) ?_
    refine lv_iadd hx hb d_Reader_beginsNumber_16 ?_
    obtain ⟨h_2, hm⟩ := ck_some hm
    refine va_iald hx hb hK hP 43 0 twA_31 rfl h_2 d_Reader_beginsNumber_17 ?_
    obtain ⟨r_4, h_3, hm⟩ := ob0_some hm
    have hFc := x_free0 hS hA
    refine va_calli (va_runS (As := [.int (a 31 (v1 + 1).toNatClampNeg)]) (rest := []) ⟨hx, hb, hml, hown, hts⟩ (x_Reader_isDigit l s.heap.size n h_3) (va_cwS 1 hts (tw_GS tw_cons cw_Reader_isDigit lk_Reader_97 st_Reader_isDigit ini_Reader) rfl rfl rfl hd_Reader_isDigit ⟨Nat.le_of_ble_eq_true rfl, Nat.le_of_ble_eq_true rfl⟩) xpS0 rfl rfl hl.1 rfl (lv_room (Nat.le_of_ble_eq_true rfl)) d_Reader_beginsNumber_18 ⟨Nat.le_of_ble_eq_true rfl, Nat.le_of_ble_eq_true rfl⟩) hS (fun q _ h => hFc q h) hFc (fun r9 u9 t9 H locs ht hvm e9 hB hz1 hk1 hS => ?_)
    have e9 : r_4 = r9 := e9
    subst e9
    replace hP := x_keep hP hk1
    clear hFc hk1 hz1 hvm hB ht
    refine lv_if_ne (tgt := 26) hx hb d_Reader_beginsNumber_21 (by decide) (fun c_5 => ?_) (fun c_5 => ?_)
    · replace hm := if_f c_5 hm
      refine lv_iload_n hx hb d_Reader_beginsNumber_26 rfl (lv_at hl 1 rfl) ?_
      refine lv_if_ne (tgt := 35) hx hb d_Reader_beginsNumber_27 (by decide) (fun c_6 => ?_) (fun c_6 => ?_)
      · replace hm := if_f c_6 hm
        refine lv_aload_n hx hb d_Reader_beginsNumber_35 rfl (lv_at hl 0 rfl) ?_
        refine va_get (D := (dC, dI)) (ci := 7) (v := .ref ((u 41))) (C := R_Reader) (T := F_Reader) (N := 19) hx hb htt iw_Reader hown hK hP 7 xo_7 rfl 2 (Nat.le_of_ble_eq_true rfl) (htt _ lk_Reader_11) (fun _ h9 => h9) xg_7_2 d_Reader_beginsNumber_36 ?_
        refine lv_iload_n hx hb d_Reader_beginsNumber_39 rfl (lv_at hl 1 rfl) ?_
        refine lv_iconst (v := 1) hx hb d_Reader_beginsNumber_40 (by decide) ?_
        refine lv_isub hx hb d_Reader_beginsNumber_41 ?_
        obtain ⟨h_7, hm⟩ := ck_some hm
        refine va_iald hx hb hK hP 43 0 twA_31 rfl h_7 d_Reader_beginsNumber_42 ?_
        exact lb_Reader_beginsNumber_43 l dC dI cI adK adV adA u o g n hx hb hml hown hts hK hE hA hr hlocks _ hm _ _ _ hP hS (lv_sub hl [] rfl)
      · replace hm := if_t c_6 hm
        refine lv_bipush (v := 32) hx hb d_Reader_beginsNumber_30 (by decide) ?_
        refine lv_goto (tgt := 43) hx hb d_Reader_beginsNumber_32 (by decide) ?_
        exact lb_Reader_beginsNumber_43 l dC dI cI adK adV adA u o g n hx hb hml hown hts hK hE hA hr hlocks _ hm _ _ _ hP hS (lv_sub hl [] rfl)
    · replace hm := if_t c_5 hm
      refine lv_iconst (v := 0) hx hb d_Reader_beginsNumber_24 (by decide) ?_
      have e3 := re1 hm
      exact W.zret hx hb hr (by decide) (fun t9 ht hW => ⟨⟨_, (), rfl, e3.symm, trivial⟩, hS.F ht⟩) hS.2.2 d_Reader_beginsNumber_25
