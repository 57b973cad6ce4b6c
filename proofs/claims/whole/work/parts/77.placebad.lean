theorem lk_World_189 : Cond.classLink "TurtleWorld" 189 "java/util/NoSuchElementException" ∈ tw_T := tw_i7 234 (by decide +kernel) (by decide +kernel)
theorem ini_NoSuch : Cond.initialized "java/util/NoSuchElementException" ∈ tw_T := tw_i1 25 (by decide +kernel) (by decide +kernel)
/-- 'throw new NoSuchElementException()' of the class -/
theorem tw_throw {p : Program} {l : Launch} {e : Env} {R : Room} {s : State} {m : MethodId} {args : Array Value} {below : List Frame} {meth : Method} {c : Code} {H : Heap} {cells slots : Nat} {cc : ByteArray} {pc : Nat} {ls : Array Slot} {A : Nat → Prop}
    (hf : l.flags = pinnedFlags ++ [noTraceFlag]) (hx : p.tables.exec = Jvm.exec) (hb : c.code = cc) (hls : ls.size = c.maxLocals) (hown : s.vm.findClass "TurtleWorld" = some m.cls) (htt : ∀ w ∈ tw_T, w.before args s = true) (hX : tw_X A s s.heap)
    (hsz : s.heap.size ≤ H.size) (hout : c.exceptionTable.toList = [])
    (hd : decode cc pc = .ok (.new 189, 3)) (hd1 : decode cc (pc + 3) = .ok (.dup, 1)) (hd2 : decode cc (pc + 3 + 1) = .ok (.invokespecial 191, 3)) (hd3 : decode cc (pc + 3 + 1 + 3) = .ok (.athrow, 1))
    (hcl : Cond.classLink "TurtleWorld" 189 "java/util/NoSuchElementException" ∈ tw_T) (hini : Cond.initialized "java/util/NoSuchElementException" ∈ tw_T) (hcells : cells + 1 ≤ R.cells) (hslots : slots + 6 ≤ R.slots) (hRf : 5 < R.frames) (hRl : 150 ≤ R.locals) (hlocks : meth.locks = false) :
    W p l e R s m args below meth c H [] cells slots (TQ below s (cells + 1) (slots + 6)) (F0 m pc ls []) := by
  intro T hT X
  have htr := Launch.traces_off hf X.admits
  have hat := xa_all htt hX
  obtain ⟨vm₁, cX, kX, hfX, hkX, -, -, X₁, st1⟩ := X.newCold hx (own := "TurtleWorld") (C := "java/util/NoSuchElementException") (index := 189) (n := 6) hown (htt _ hcl) (hat _ (by simp [Bundle.ownAtoms0])) (htt _ hini) (g := F0 m pc ls []) rfl (by rw [hb]; exact hd) hcells hslots
  generalize hT1 : (T.setVm vm₁).pushCell { cls := cX, slots := kX.instanceTypes.map defaultValue, vm := .none } = T1 at X₁ st1
  have hcellA : T1.heap[T.heap.size]? = some (freshCell cX kX) := by rw [← hT1]; exact State.heap_pushCell_size _ _
  obtain ⟨U, hsteps, hrun, hend, hW, hsame, ce, hce, K⟩ := X₁.ctorThrow0 hx htr (own := "TurtleWorld") (cls := "java/util/NoSuchElementException") (names := ["java/lang/RuntimeException", "java/lang/Exception"]) (ic := 191) hown (by decide +kernel) (by decide +kernel) hat (fun y hy => by cases hy) hfX hkX hcellA (by rw [hT]; exact hsz)
    (g := F0 m (pc + 3 + 1) ls [.ref T.heap.size, .ref T.heap.size]) rfl hls rfl rfl (rest := []) rfl (by rw [hb]; exact hd2) (by rw [hb]; exact hd3) (by rw [hout]; intro x h; cases h) hRf (by show 2 * 0 + ([Value.ref T.heap.size].map fun v => v.category).sum + (13 * (2 + 1) + 41) ≤ R.locals; have : ([Value.ref T.heap.size].map fun v => v.category).sum = 1 := rfl; omega) hlocks
  refine ⟨U, ?_, T.heap.size, hrun, hend, by rw [hT]; exact hsz, ⟨ce, hce, K.vm, K.cls, K.self⟩, hW, hsame⟩
  refine st1 _ ?_
  show Steps p.tables e below (T1.setTop { method := m, pc := pc + 3, locals := ls, stack := [.ref T.heap.size], locked := none }) _
  jvm_step X₁.here [X₁.here.top, hx, hb, hd1, Value.category]
  exact hsteps

set_option maxHeartbeats 4000000 in
set_option maxRecDepth 100000 in
/-- it throws, where there is none such -/
theorem c_World_place_bad (l : Launch) (hf : l.flags = pinnedFlags ++ [noTraceFlag]) (dC : Nat → ClassId) (dI : Nat → Nat → Nat) (sz : Nat) (hw : Nat) (a : Int32) (b : Int32) (d : Int32) (hbad : ts_exists a = 0 ∨ b < 0 ∨ 1 < b ∨ d < 0 ∨ ¬ d ≤ 1) : MetT l y_World_place w_World_place ({ frames := 6, cells := 1, slots := 6, locals := 150 }) (va_Pc [.ref hw, .int a, .int b, .int d] (fun U => U.heap.size = sz ∧ va_P (dC, dI) classes ([] : va_W) U.heap ∧ va_K (dC, dI) classes [] U ∧ va_D (fun _ => True) ([] : va_W) ∧ tw_X (va_A ([] : va_W) sz) U U.heap)) 1 6 := by
  refine MetT.ofW (cc := b_World_place) (maxL := 4) (ret := (some .int)) (by decide) rfl ?_
  intro p e s m args below meth c s₁ B hml hv
  obtain ⟨rfl, hsz, hP, hK, hD0, hX⟩ := hv
  have hx := B.exec
  have hb := B.bytes
  have hr := B.returns
  have hts := atoms_spec (ws := w_World_place) B.pre
  have htt : ∀ w ∈ tw_T, w.before _ s = true := fun w h => hts w (List.mem_cons_of_mem _ h)
  have hown : s.vm.findClass R_World = some m.cls := findClass_of_methodNamed B.named
  have hlocks := B.notSynchronized
  subst hsz
  have hD := hD0.self (sz := s.heap.size)
  generalize hAe : va_A ([] : va_W) s.heap.size = A at hD hX ⊢
  have hA : ∀ q : Nat, s.heap.size ≤ q → A q := fun q h => by rw [← hAe]; exact Or.inr h
  have hS : va_S A s.heap s.heap [] := va_S.rf
  have hP : va_P (dC, dI) classes ([] : va_W) s.heap := hP
  have hl := lv_entry ([.ref hw, .int a, .int b, .int d]) (n := 4) (Nat.le_of_ble_eq_true rfl)
  rw [lg_entry_eq]
  generalize (lg_sl ([.ref hw, .int a, .int b, .int d]) ++ List.replicate (4 - (lg_sl ([.ref hw, .int a, .int b, .int d])).length) Slot.unset).toArray = ls at hl ⊢
  have hl : lv_has ls 4 [(0, .ref hw), (1, .int a), (2, .int b), (3, .int d)] := hl
  refine lv_iload_n hx hb d_World_place_0 rfl (lv_at hl 1 rfl) ?_
  have hPc := hP.sub (ws' := []) [] rfl
  have hDc := hD.sub (ws' := []) [] (by decide) rfl
  have hKc := hK.sub (tys' := []) [] rfl
  have hFc := va_free (wc := []) hD hS hA [] rfl
  refine va_calli (va_runS (As := [.int a]) (rest := []) ⟨hx, hb, hml, hown, hts⟩ (c_Turtles_exists l dC dI s.heap.size a) (va_cwS 1 hts (tw_GS tw_cons cw_Turtles_exists lk_World_186 st_Turtles_exists ini_Turtles) rfl rfl rfl (by decide +kernel) ⟨Nat.le_of_ble_eq_true rfl, Nat.le_of_ble_eq_true rfl⟩) ⟨fun a U g mk q => by obtain ⟨q0, q1, qP, qK, qD⟩ := q; exact ⟨q0, q1, qP, va_K.moved (u := U) (U := U.calling g mk a) (Vm.Alike.refl U.vm) qK, qD⟩, fun U hU hW => ⟨rfl, by rw [hU], by rw [hU]; exact hPc, va_K.moved hW.alike hKc, hDc.weaken (fun _ _ _ _ => trivial)⟩⟩ rfl rfl hl.1 rfl (lv_room (Nat.le_of_ble_eq_true rfl)) d_World_place_1 ⟨Nat.le_of_ble_eq_true rfl, Nat.le_of_ble_eq_true rfl⟩) hS (fun q _ h => hFc q h) hFc (fun r9 u9 t9 H1 locs ht hvm e9 hB hz1 hk1 hS => ?_)
  obtain ⟨hP1, hK1, hD1⟩ := hB
  rw [ht] at hP1
  obtain ⟨hP, hD⟩ := va_join (wr := []) (w1 := []) hP hD [] [] rfl rfl (by decide) (by decide) hk1 hFc hP1 hD1
  subst e9
  clear hP1 hD1 hK1 hvm hz1 hk1 hFc hKc hDc hPc
  subst ht
  generalize t9.heap = H at hP hS ⊢
  have hP : va_P (dC, dI) classes [] H := hP
  have hD : va_D A [] := hD
  refine lv_if_eq (tgt := 25) hx hb d_World_place_4 (by decide) (fun c_1 => ?_) (fun c_1 => ?_)
  · have hcode9 : (Cond.code y_World_place b_World_place 4 (some .int)).before _ s = true := hts _ List.mem_cons_self
    refine va_forget (fun q hq => by have h9 := hS.2.2 q hq; rw [← hAe] at h9; rcases h9 with ⟨k9, e9, h9⟩ | h9; simp at h9; exact h9) ?_
    exact tw_throw hf hx hb (by rw [hml]; exact hl.1) hown htt hX hS.1 (by simpa [Array.isEmpty] using B.noHandlers hcode9) d_World_place_25 d_World_place_28 d_World_place_29 d_World_place_32 lk_World_189 ini_NoSuch (Nat.le_of_ble_eq_true rfl) (Nat.le_of_ble_eq_true rfl) (Nat.lt_of_sub_ne_zero (by decide)) (Nat.le_of_ble_eq_true rfl) hlocks
  · refine lv_iload_n hx hb d_World_place_7 rfl (lv_at hl 2 rfl) ?_
    refine lv_if_lt (tgt := 25) hx hb d_World_place_8 (by decide) (fun c_2 => ?_) (fun c_2 => ?_)
    · have hcode9 : (Cond.code y_World_place b_World_place 4 (some .int)).before _ s = true := hts _ List.mem_cons_self
      refine va_forget (fun q hq => by have h9 := hS.2.2 q hq; rw [← hAe] at h9; rcases h9 with ⟨k9, e9, h9⟩ | h9; simp at h9; exact h9) ?_
      exact tw_throw hf hx hb (by rw [hml]; exact hl.1) hown htt hX hS.1 (by simpa [Array.isEmpty] using B.noHandlers hcode9) d_World_place_25 d_World_place_28 d_World_place_29 d_World_place_32 lk_World_189 ini_NoSuch (Nat.le_of_ble_eq_true rfl) (Nat.le_of_ble_eq_true rfl) (Nat.lt_of_sub_ne_zero (by decide)) (Nat.le_of_ble_eq_true rfl) hlocks
    · refine lv_iload_n hx hb d_World_place_11 rfl (lv_at hl 2 rfl) ?_
      refine lv_iconst (v := 1) hx hb d_World_place_12 (by decide) ?_
      refine lv_icmp_gt (tgt := 25) hx hb d_World_place_13 (by decide) (fun c_3 => ?_) (fun c_3 => ?_)
      · have hcode9 : (Cond.code y_World_place b_World_place 4 (some .int)).before _ s = true := hts _ List.mem_cons_self
        refine va_forget (fun q hq => by have h9 := hS.2.2 q hq; rw [← hAe] at h9; rcases h9 with ⟨k9, e9, h9⟩ | h9; simp at h9; exact h9) ?_
        exact tw_throw hf hx hb (by rw [hml]; exact hl.1) hown htt hX hS.1 (by simpa [Array.isEmpty] using B.noHandlers hcode9) d_World_place_25 d_World_place_28 d_World_place_29 d_World_place_32 lk_World_189 ini_NoSuch (Nat.le_of_ble_eq_true rfl) (Nat.le_of_ble_eq_true rfl) (Nat.lt_of_sub_ne_zero (by decide)) (Nat.le_of_ble_eq_true rfl) hlocks
      · refine lv_iload_n hx hb d_World_place_16 rfl (lv_at hl 3 rfl) ?_
        refine lv_if_lt (tgt := 25) hx hb d_World_place_17 (by decide) (fun c_4 => ?_) (fun c_4 => ?_)
        · have hcode9 : (Cond.code y_World_place b_World_place 4 (some .int)).before _ s = true := hts _ List.mem_cons_self
          refine va_forget (fun q hq => by have h9 := hS.2.2 q hq; rw [← hAe] at h9; rcases h9 with ⟨k9, e9, h9⟩ | h9; simp at h9; exact h9) ?_
          exact tw_throw hf hx hb (by rw [hml]; exact hl.1) hown htt hX hS.1 (by simpa [Array.isEmpty] using B.noHandlers hcode9) d_World_place_25 d_World_place_28 d_World_place_29 d_World_place_32 lk_World_189 ini_NoSuch (Nat.le_of_ble_eq_true rfl) (Nat.le_of_ble_eq_true rfl) (Nat.lt_of_sub_ne_zero (by decide)) (Nat.le_of_ble_eq_true rfl) hlocks
        · refine lv_iload_n hx hb d_World_place_20 rfl (lv_at hl 3 rfl) ?_
          refine lv_iconst (v := 1) hx hb d_World_place_21 (by decide) ?_
          refine lv_icmp_le (tgt := 33) hx hb d_World_place_22 (by decide) (fun c_5 => ?_) (fun c_5 => ?_)
          · exact absurd c_5 (hbad.elim (fun h => absurd h c_1) (fun h => h.elim (fun h => absurd h c_2) (fun h => h.elim (fun h => absurd h c_3) (fun h => h.elim (fun h => absurd h c_4) id))))
          · have hcode9 : (Cond.code y_World_place b_World_place 4 (some .int)).before _ s = true := hts _ List.mem_cons_self
            refine va_forget (fun q hq => by have h9 := hS.2.2 q hq; rw [← hAe] at h9; rcases h9 with ⟨k9, e9, h9⟩ | h9; simp at h9; exact h9) ?_
            exact tw_throw hf hx hb (by rw [hml]; exact hl.1) hown htt hX hS.1 (by simpa [Array.isEmpty] using B.noHandlers hcode9) d_World_place_25 d_World_place_28 d_World_place_29 d_World_place_32 lk_World_189 ini_NoSuch (Nat.le_of_ble_eq_true rfl) (Nat.le_of_ble_eq_true rfl) (Nat.lt_of_sub_ne_zero (by decide)) (Nat.le_of_ble_eq_true rfl) hlocks

set_option maxHeartbeats 4000000 in
set_option maxRecDepth 100000 in
/-- it throws, where there is none such -/
theorem c_World_side_bad (l : Launch) (hf : l.flags = pinnedFlags ++ [noTraceFlag]) (dC : Nat → ClassId) (dI : Nat → Nat → Nat) (sz : Nat) (hw : Nat) (a : Int32) (b : Int32) (d : Int32) (hbad : ts_exists a = 0 ∨ b < 0 ∨ ¬ b ≤ 1) : MetT l y_World_side w_World_side ({ frames := 6, cells := 1, slots := 6, locals := 150 }) (va_Pc [.ref hw, .int a, .int b, .int d] (fun U => U.heap.size = sz ∧ va_P (dC, dI) classes ([] : va_W) U.heap ∧ va_K (dC, dI) classes [] U ∧ va_D (fun _ => True) ([] : va_W) ∧ tw_X (va_A ([] : va_W) sz) U U.heap)) 1 6 := by
  refine MetT.ofW (cc := b_World_side) (maxL := 4) (ret := (some .int)) (by decide) rfl ?_
  intro p e s m args below meth c s₁ B hml hv
  obtain ⟨rfl, hsz, hP, hK, hD0, hX⟩ := hv
  have hx := B.exec
  have hb := B.bytes
  have hr := B.returns
  have hts := atoms_spec (ws := w_World_side) B.pre
  have htt : ∀ w ∈ tw_T, w.before _ s = true := fun w h => hts w (List.mem_cons_of_mem _ h)
  have hown : s.vm.findClass R_World = some m.cls := findClass_of_methodNamed B.named
  have hlocks := B.notSynchronized
  subst hsz
  have hD := hD0.self (sz := s.heap.size)
  generalize hAe : va_A ([] : va_W) s.heap.size = A at hD hX ⊢
  have hA : ∀ q : Nat, s.heap.size ≤ q → A q := fun q h => by rw [← hAe]; exact Or.inr h
  have hS : va_S A s.heap s.heap [] := va_S.rf
  have hP : va_P (dC, dI) classes ([] : va_W) s.heap := hP
  have hl := lv_entry ([.ref hw, .int a, .int b, .int d]) (n := 4) (Nat.le_of_ble_eq_true rfl)
  rw [lg_entry_eq]
  generalize (lg_sl ([.ref hw, .int a, .int b, .int d]) ++ List.replicate (4 - (lg_sl ([.ref hw, .int a, .int b, .int d])).length) Slot.unset).toArray = ls at hl ⊢
  have hl : lv_has ls 4 [(0, .ref hw), (1, .int a), (2, .int b), (3, .int d)] := hl
  refine lv_iload_n hx hb d_World_side_0 rfl (lv_at hl 1 rfl) ?_
  have hPc := hP.sub (ws' := []) [] rfl
  have hDc := hD.sub (ws' := []) [] (by decide) rfl
  have hKc := hK.sub (tys' := []) [] rfl
  have hFc := va_free (wc := []) hD hS hA [] rfl
  refine va_calli (va_runS (As := [.int a]) (rest := []) ⟨hx, hb, hml, hown, hts⟩ (c_Turtles_exists l dC dI s.heap.size a) (va_cwS 1 hts (tw_GS tw_cons cw_Turtles_exists lk_World_186 st_Turtles_exists ini_Turtles) rfl rfl rfl (by decide +kernel) ⟨Nat.le_of_ble_eq_true rfl, Nat.le_of_ble_eq_true rfl⟩) ⟨fun a U g mk q => by obtain ⟨q0, q1, qP, qK, qD⟩ := q; exact ⟨q0, q1, qP, va_K.moved (u := U) (U := U.calling g mk a) (Vm.Alike.refl U.vm) qK, qD⟩, fun U hU hW => ⟨rfl, by rw [hU], by rw [hU]; exact hPc, va_K.moved hW.alike hKc, hDc.weaken (fun _ _ _ _ => trivial)⟩⟩ rfl rfl hl.1 rfl (lv_room (Nat.le_of_ble_eq_true rfl)) d_World_side_1 ⟨Nat.le_of_ble_eq_true rfl, Nat.le_of_ble_eq_true rfl⟩) hS (fun q _ h => hFc q h) hFc (fun r9 u9 t9 H1 locs ht hvm e9 hB hz1 hk1 hS => ?_)
  obtain ⟨hP1, hK1, hD1⟩ := hB
  rw [ht] at hP1
  obtain ⟨hP, hD⟩ := va_join (wr := []) (w1 := []) hP hD [] [] rfl rfl (by decide) (by decide) hk1 hFc hP1 hD1
  subst e9
  clear hP1 hD1 hK1 hvm hz1 hk1 hFc hKc hDc hPc
  subst ht
  generalize t9.heap = H at hP hS ⊢
  have hP : va_P (dC, dI) classes [] H := hP
  have hD : va_D A [] := hD
  refine lv_if_eq (tgt := 16) hx hb d_World_side_4 (by decide) (fun c_1 => ?_) (fun c_1 => ?_)
  · have hcode9 : (Cond.code y_World_side b_World_side 4 (some .int)).before _ s = true := hts _ List.mem_cons_self
    refine va_forget (fun q hq => by have h9 := hS.2.2 q hq; rw [← hAe] at h9; rcases h9 with ⟨k9, e9, h9⟩ | h9; simp at h9; exact h9) ?_
    exact tw_throw hf hx hb (by rw [hml]; exact hl.1) hown htt hX hS.1 (by simpa [Array.isEmpty] using B.noHandlers hcode9) d_World_side_16 d_World_side_19 d_World_side_20 d_World_side_23 lk_World_189 ini_NoSuch (Nat.le_of_ble_eq_true rfl) (Nat.le_of_ble_eq_true rfl) (Nat.lt_of_sub_ne_zero (by decide)) (Nat.le_of_ble_eq_true rfl) hlocks
  · refine lv_iload_n hx hb d_World_side_7 rfl (lv_at hl 2 rfl) ?_
    refine lv_if_lt (tgt := 16) hx hb d_World_side_8 (by decide) (fun c_2 => ?_) (fun c_2 => ?_)
    · have hcode9 : (Cond.code y_World_side b_World_side 4 (some .int)).before _ s = true := hts _ List.mem_cons_self
      refine va_forget (fun q hq => by have h9 := hS.2.2 q hq; rw [← hAe] at h9; rcases h9 with ⟨k9, e9, h9⟩ | h9; simp at h9; exact h9) ?_
      exact tw_throw hf hx hb (by rw [hml]; exact hl.1) hown htt hX hS.1 (by simpa [Array.isEmpty] using B.noHandlers hcode9) d_World_side_16 d_World_side_19 d_World_side_20 d_World_side_23 lk_World_189 ini_NoSuch (Nat.le_of_ble_eq_true rfl) (Nat.le_of_ble_eq_true rfl) (Nat.lt_of_sub_ne_zero (by decide)) (Nat.le_of_ble_eq_true rfl) hlocks
    · refine lv_iload_n hx hb d_World_side_11 rfl (lv_at hl 2 rfl) ?_
      refine lv_iconst (v := 1) hx hb d_World_side_12 (by decide) ?_
      refine lv_icmp_le (tgt := 24) hx hb d_World_side_13 (by decide) (fun c_3 => ?_) (fun c_3 => ?_)
      · exact absurd c_3 (hbad.elim (fun h => absurd h c_1) (fun h => h.elim (fun h => absurd h c_2) id))
      · have hcode9 : (Cond.code y_World_side b_World_side 4 (some .int)).before _ s = true := hts _ List.mem_cons_self
        refine va_forget (fun q hq => by have h9 := hS.2.2 q hq; rw [← hAe] at h9; rcases h9 with ⟨k9, e9, h9⟩ | h9; simp at h9; exact h9) ?_
        exact tw_throw hf hx hb (by rw [hml]; exact hl.1) hown htt hX hS.1 (by simpa [Array.isEmpty] using B.noHandlers hcode9) d_World_side_16 d_World_side_19 d_World_side_20 d_World_side_23 lk_World_189 ini_NoSuch (Nat.le_of_ble_eq_true rfl) (Nat.le_of_ble_eq_true rfl) (Nat.lt_of_sub_ne_zero (by decide)) (Nat.le_of_ble_eq_true rfl) hlocks
