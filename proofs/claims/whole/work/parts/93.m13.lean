theorem hd_Model_told : y_Model_told.cls ≠ "java/lang/invoke/MethodHandle" ∧ y_Model_told.cls ≠ "java/lang/invoke/VarHandle" ∧ (parseMethodDescriptor y_Model_told.desc).map (fun d => d.parameters.length) = some 1 := by decide +kernel
theorem hd_Model_keep : y_Model_keep.cls ≠ "java/lang/invoke/MethodHandle" ∧ y_Model_keep.cls ≠ "java/lang/invoke/VarHandle" ∧ (parseMethodDescriptor y_Model_keep.desc).map (fun d => d.parameters.length) = some 0 := by decide +kernel
theorem hd_Model_execute : y_Model_execute.cls ≠ "java/lang/invoke/MethodHandle" ∧ y_Model_execute.cls ≠ "java/lang/invoke/VarHandle" ∧ (parseMethodDescriptor y_Model_execute.desc).map (fun d => d.parameters.length) = some 1 := by decide +kernel
theorem lk_Model_526 : Cond.methodLink "TurtleWorldModel" 526 ⟨"TurtleWorldModel", "putBack", "()V"⟩ ∈ tw_T := tw_i11 188 (by decide +kernel) (by decide +kernel)
theorem hd_Model_putBack : y_Model_putBack.cls ≠ "java/lang/invoke/MethodHandle" ∧ y_Model_putBack.cls ≠ "java/lang/invoke/VarHandle" ∧ (parseMethodDescriptor y_Model_putBack.desc).map (fun d => d.parameters.length) = some 0 := by decide +kernel
theorem in_Model_putBack : Cond.instanceMethod ⟨"TurtleWorldModel", "putBack", "()V"⟩ ∈ tw_T := tw_i11 190 (by decide +kernel) (by decide +kernel)
theorem sel_Model_putBack : Cond.selects "TurtleWorldModel" ⟨"TurtleWorldModel", "putBack", "()V"⟩ ⟨"TurtleWorldModel", "putBack", "()V"⟩ ∈ tw_T := tw_inS 167 (by decide +kernel) (by decide +kernel)
def m_Model_execute_b219 (n : Nat) (d : Nat) (i : Nat → Int32) (j : Nat → Int64) (a : Nat → Nat → Int32) (b : Nat → Nat → Int64)  : Option ((Nat → Int32) × (Nat → Int64) × (Nat → Nat → Int32) × (Nat → Nat → Int64) × Int32) := ob1 (i 126 : Int32) (fun x_1 => ob1 (upd i 94 x_1 : Nat → Int32) (fun i_2 => om (m_Model_ended n i_2 j a b) (fun i_4 j_5 a_6 b_7 r_8 => some (i_4, j_5, a_6, b_7, (0 : Int32)))))
set_option maxHeartbeats 4000000 in
set_option maxRecDepth 100000 in
theorem lb_Model_execute_219 (d : Nat) (l : Launch) (dC : Nat → ClassId) (dI : Nat → Nat → Nat) (cI cJ cB : ClassId) (adK adV adA : Nat → Nat) (h : Nat) (v : Nat → Nat) (n : Nat) {p : Program} {e : Env} {s : State} {m : MethodId} {args : Array Value} {below : List Frame} {meth : Method} {c : Code} {A : Nat → Prop} (hx : p.tables.exec = Jvm.exec) (hb : c.code = b_Model_execute) (hml : c.maxLocals = 5) (hown : s.vm.findClass R_Model = some m.cls) (hts : ∀ w ∈ w_Model_execute, w.before args s = true) (hK : va_K (dC, dI) classes [(cI, .int), (cJ, .long), (cB, .byte)] s) (hE : tw_E adK adV adA A s s.heap) (hA : ∀ q : Nat, s.heap.size ≤ q → A q) (hr : meth.sig.returnType = none) (hlocks : meth.locks = false) {i2 : Nat → Int32} {j2 : Nat → Int64} {a2 : Nat → Nat → Int32} {b2 : Nat → Nat → Int64} {r2 : Int32} (i : Nat → Int32) (j : Nat → Int64) (a : Nat → Nat → Int32) (b : Nat → Nat → Int64)  (hm : m_Model_execute_b219 n d i j a b = some (i2, j2, a2, b2, r2)) : ∀ (H : Heap) (locs : List Loc) (ls : Array Slot), va_P (dC, dI) classes (MW cI cJ cB h v i j a b) H → va_D A (MW cI cJ cB h v i j a b) → va_S A s.heap H locs → lv_has ls 5 [(0, .ref h)] → W p l e (gA 9 226 d) s m args below meth c H locs 0 0 (MQ below (va_Qv xV (yB dC dI cI cJ cB h v i2 j2 a2 b2 A) A) args s 0 0 A) (F0 m 219 ls [.ref h]) := by
  have htt : ∀ w ∈ tw_T, w.before _ s = true := fun w h => hts w (List.mem_cons_of_mem _ h)
  intro H locs ls hP hD hS hl
  rw [m_Model_execute_b219] at hm
  refine lv_aload_n hx hb d_Model_execute_219 rfl (lv_at hl 0 rfl) ?_
  refine va_get (D := (dC, dI)) (ci := 12) (v := .int (i 126)) (C := R_Model) (T := F_Model) (N := 127) hx hb htt iw_Model hown hK hP 0 yo_12 rfl 126 (Nat.le_of_ble_eq_true rfl) (htt _ lk_Model_599) (fun _ h9 => h9) yg_126 d_Model_execute_220 ?_
  refine lv_goto (tgt := 227) hx hb d_Model_execute_223 (by decide) ?_
  refine lv_topi (fun x_1 ex_1 => ?_)
  replace hm := ob1_at ex_1 hm
  refine va_put (D := (dC, dI)) (ci := 12) (v := .int x_1) (ty := .int) (C := R_Model) (T := F_Model) (N := 127) hx hb htt iw_Model t_Model t_Model_ok n_Model hown hK hP hD hS 0 yo_12 rfl 94 (Nat.le_of_ble_eq_true rfl) (htt _ lk_Model_550) (fun _ h9 => h9) rfl (by decide +kernel) rfl rfl yl_94 d_Model_execute_227 (fun H locs hP hD hS => ?_)
  obtain ⟨i_2, ei_2⟩ : ∃ y9 : Nat → Int32, y9 = upd i 94 x_1 := ⟨_, rfl⟩
  replace hm := ob1_at ei_2 hm
  obtain ⟨hP, hD⟩ := yw_94 ei_2 hP hD
  refine lv_aload_n hx hb d_Model_execute_230 rfl (lv_at hl 0 rfl) ?_
  obtain ⟨i_4, j_5, a_6, b_7, r_8, h_3, hm⟩ := om_some hm
  have hFc := x_free hD hS hA
  refine va_callv (va_runV (As := []) (rest := []) ⟨hx, hb, hml, hown, hts⟩ (x_Model_ended l dC dI cI cJ cB adK adV adA h v H.size n h_3) (cwV 0 hts (tw_GV tw_cons cw_Model_ended lk_Model_529 in_Model_ended sel_Model_ended ini_Model) rfl rfl rfl ⟨rfl, hd_Model_ended⟩ (gA_fit (by decide) (by decide))) (ypV hK hP hD hS hE hFc yo_12 rfl) rfl rfl hl.1 rfl (lv_room (Nat.le_of_ble_eq_true rfl)) d_Model_execute_231 ⟨Nat.le_of_ble_eq_true rfl, Nat.le_of_ble_eq_true rfl⟩) hS (fun q _ h => hFc q h) hFc (fun u9 t9 H locs ht hvm e9 hB hz1 hk1 hS => ?_)
  obtain ⟨hP, hD⟩ := y_aft hB ht hFc
  clear hFc hk1 hz1 hvm hB ht
  obtain ⟨e1i, e1j, e1a, e1b, e3⟩ := re4m hm
  obtain ⟨hP, hD⟩ := y_eq e1i e1j e1a e1b hP hD
  exact W.vret hx hb hr (fun t9 ht hW => ⟨⟨(), rfl, trivial, by rw [ht]; exact hP, hD⟩, hS.F ht⟩) hS.2.2 d_Model_execute_234
def m_Model_execute_b198 (n : Nat) (d : Nat) (i : Nat → Int32) (j : Nat → Int64) (a : Nat → Nat → Int32) (b : Nat → Nat → Int64) (s0 : Int32) : Option ((Nat → Int32) × (Nat → Int64) × (Nat → Nat → Int32) × (Nat → Nat → Int64) × Int32) := ob1 (upd i 92 s0 : Nat → Int32) (fun i_1 => if ((i_1 102)) = ((2 : Int32)) then m_Model_execute_b219 n d i_1 j a b else if ((i_1 102)) = ((6 : Int32)) then m_Model_execute_b219 n d i_1 j a b else ob1 (upd i_1 94 0 : Nat → Int32) (fun i_4 => om (m_Model_ended n i_4 j a b) (fun i_6 j_7 a_8 b_9 r_10 => some (i_6, j_7, a_8, b_9, (0 : Int32)))))
set_option maxHeartbeats 4000000 in
set_option maxRecDepth 100000 in
theorem lb_Model_execute_198 (d : Nat) (l : Launch) (dC : Nat → ClassId) (dI : Nat → Nat → Nat) (cI cJ cB : ClassId) (adK adV adA : Nat → Nat) (h : Nat) (v : Nat → Nat) (n : Nat) {p : Program} {e : Env} {s : State} {m : MethodId} {args : Array Value} {below : List Frame} {meth : Method} {c : Code} {A : Nat → Prop} (hx : p.tables.exec = Jvm.exec) (hb : c.code = b_Model_execute) (hml : c.maxLocals = 5) (hown : s.vm.findClass R_Model = some m.cls) (hts : ∀ w ∈ w_Model_execute, w.before args s = true) (hK : va_K (dC, dI) classes [(cI, .int), (cJ, .long), (cB, .byte)] s) (hE : tw_E adK adV adA A s s.heap) (hA : ∀ q : Nat, s.heap.size ≤ q → A q) (hr : meth.sig.returnType = none) (hlocks : meth.locks = false) {i2 : Nat → Int32} {j2 : Nat → Int64} {a2 : Nat → Nat → Int32} {b2 : Nat → Nat → Int64} {r2 : Int32} (i : Nat → Int32) (j : Nat → Int64) (a : Nat → Nat → Int32) (b : Nat → Nat → Int64) (s0 : Int32) (hm : m_Model_execute_b198 n d i j a b s0 = some (i2, j2, a2, b2, r2)) : ∀ (H : Heap) (locs : List Loc) (ls : Array Slot), va_P (dC, dI) classes (MW cI cJ cB h v i j a b) H → va_D A (MW cI cJ cB h v i j a b) → va_S A s.heap H locs → lv_has ls 5 [(0, .ref h)] → W p l e (gA 9 226 d) s m args below meth c H locs 0 0 (MQ below (va_Qv xV (yB dC dI cI cJ cB h v i2 j2 a2 b2 A) A) args s 0 0 A) (F0 m 198 ls [.int s0, .ref h]) := by
  have htt : ∀ w ∈ tw_T, w.before _ s = true := fun w h => hts w (List.mem_cons_of_mem _ h)
  intro H locs ls hP hD hS hl
  rw [m_Model_execute_b198] at hm
  refine va_put (D := (dC, dI)) (ci := 12) (v := .int s0) (ty := .int) (C := R_Model) (T := F_Model) (N := 127) hx hb htt iw_Model t_Model t_Model_ok n_Model hown hK hP hD hS 0 yo_12 rfl 92 (Nat.le_of_ble_eq_true rfl) (htt _ lk_Model_494) (fun _ h9 => h9) rfl (by decide +kernel) rfl rfl yl_92 d_Model_execute_198 (fun H locs hP hD hS => ?_)
  obtain ⟨i_1, ei_1⟩ : ∃ y9 : Nat → Int32, y9 = upd i 92 s0 := ⟨_, rfl⟩
  replace hm := ob1_at ei_1 hm
  obtain ⟨hP, hD⟩ := yw_92 ei_1 hP hD
  refine lv_aload_n hx hb d_Model_execute_201 rfl (lv_at hl 0 rfl) ?_
  refine lv_aload_n hx hb d_Model_execute_202 rfl (lv_at hl 0 rfl) ?_
  refine va_get (D := (dC, dI)) (ci := 12) (v := .int (i_1 102)) (C := R_Model) (T := F_Model) (N := 127) hx hb htt iw_Model hown hK hP 0 yo_12 rfl 102 (Nat.le_of_ble_eq_true rfl) (htt _ lk_Model_559) (fun _ h9 => h9) yg_102 d_Model_execute_203 ?_
  refine lv_iconst (v := 2) hx hb d_Model_execute_206 (by decide) ?_
  refine lv_icmp_eq (tgt := 219) hx hb d_Model_execute_207 (by decide) (fun c_2 => ?_) (fun c_2 => ?_)
  · replace hm := if_t c_2 hm
    exact lb_Model_execute_219 d l dC dI cI cJ cB adK adV adA h v n hx hb hml hown hts hK hE hA hr hlocks _ _ _ _ hm _ _ _ hP hD hS (lv_sub hl [0] rfl)
  · replace hm := if_f c_2 hm
    refine lv_aload_n hx hb d_Model_execute_210 rfl (lv_at hl 0 rfl) ?_
    refine va_get (D := (dC, dI)) (ci := 12) (v := .int (i_1 102)) (C := R_Model) (T := F_Model) (N := 127) hx hb htt iw_Model hown hK hP 0 yo_12 rfl 102 (Nat.le_of_ble_eq_true rfl) (htt _ lk_Model_559) (fun _ h9 => h9) yg_102 d_Model_execute_211 ?_
    refine lv_bipush (v := 6) hx hb d_Model_execute_214 (by decide) ?_
    refine lv_icmp_ne (tgt := 226) hx hb d_Model_execute_216 (by decide) (fun c_3 => ?_) (fun c_3 => ?_)
    · replace hm := if_f c_3 hm
      refine lv_iconst (v := 0) hx hb d_Model_execute_226 (by decide) ?_
      refine va_put (D := (dC, dI)) (ci := 12) (v := .int 0) (ty := .int) (C := R_Model) (T := F_Model) (N := 127) hx hb htt iw_Model t_Model t_Model_ok n_Model hown hK hP hD hS 0 yo_12 rfl 94 (Nat.le_of_ble_eq_true rfl) (htt _ lk_Model_550) (fun _ h9 => h9) rfl (by decide +kernel) rfl rfl yl_94 d_Model_execute_227 (fun H locs hP hD hS => ?_)
      obtain ⟨i_4, ei_4⟩ : ∃ y9 : Nat → Int32, y9 = upd i_1 94 0 := ⟨_, rfl⟩
      replace hm := ob1_at ei_4 hm
      obtain ⟨hP, hD⟩ := yw_94 ei_4 hP hD
      refine lv_aload_n hx hb d_Model_execute_230 rfl (lv_at hl 0 rfl) ?_
      obtain ⟨i_6, j_7, a_8, b_9, r_10, h_5, hm⟩ := om_some hm
      have hFc := x_free hD hS hA
      refine va_callv (va_runV (As := []) (rest := []) ⟨hx, hb, hml, hown, hts⟩ (x_Model_ended l dC dI cI cJ cB adK adV adA h v H.size n h_5) (cwV 0 hts (tw_GV tw_cons cw_Model_ended lk_Model_529 in_Model_ended sel_Model_ended ini_Model) rfl rfl rfl ⟨rfl, hd_Model_ended⟩ (gA_fit (by decide) (by decide))) (ypV hK hP hD hS hE hFc yo_12 rfl) rfl rfl hl.1 rfl (lv_room (Nat.le_of_ble_eq_true rfl)) d_Model_execute_231 ⟨Nat.le_of_ble_eq_true rfl, Nat.le_of_ble_eq_true rfl⟩) hS (fun q _ h => hFc q h) hFc (fun u9 t9 H locs ht hvm e9 hB hz1 hk1 hS => ?_)
      obtain ⟨hP, hD⟩ := y_aft hB ht hFc
      clear hFc hk1 hz1 hvm hB ht
      obtain ⟨e1i, e1j, e1a, e1b, e3⟩ := re4m hm
      obtain ⟨hP, hD⟩ := y_eq e1i e1j e1a e1b hP hD
      exact W.vret hx hb hr (fun t9 ht hW => ⟨⟨(), rfl, trivial, by rw [ht]; exact hP, hD⟩, hS.F ht⟩) hS.2.2 d_Model_execute_234
    · replace hm := if_t c_3 hm
      exact lb_Model_execute_219 d l dC dI cI cJ cB adK adV adA h v n hx hb hml hown hts hK hE hA hr hlocks _ _ _ _ hm _ _ _ hP hD hS (lv_sub hl [0] rfl)
def m_Model_execute_b193 (n : Nat) (d : Nat) (i : Nat → Int32) (j : Nat → Int64) (a : Nat → Nat → Int32) (b : Nat → Nat → Int64)  : Option ((Nat → Int32) × (Nat → Int64) × (Nat → Nat → Int32) × (Nat → Nat → Int64) × Int32) := m_Model_execute_b198 n d i j a b (3 : Int32)
set_option maxHeartbeats 4000000 in
set_option maxRecDepth 100000 in
theorem lb_Model_execute_193 (d : Nat) (l : Launch) (dC : Nat → ClassId) (dI : Nat → Nat → Nat) (cI cJ cB : ClassId) (adK adV adA : Nat → Nat) (h : Nat) (v : Nat → Nat) (n : Nat) {p : Program} {e : Env} {s : State} {m : MethodId} {args : Array Value} {below : List Frame} {meth : Method} {c : Code} {A : Nat → Prop} (hx : p.tables.exec = Jvm.exec) (hb : c.code = b_Model_execute) (hml : c.maxLocals = 5) (hown : s.vm.findClass R_Model = some m.cls) (hts : ∀ w ∈ w_Model_execute, w.before args s = true) (hK : va_K (dC, dI) classes [(cI, .int), (cJ, .long), (cB, .byte)] s) (hE : tw_E adK adV adA A s s.heap) (hA : ∀ q : Nat, s.heap.size ≤ q → A q) (hr : meth.sig.returnType = none) (hlocks : meth.locks = false) {i2 : Nat → Int32} {j2 : Nat → Int64} {a2 : Nat → Nat → Int32} {b2 : Nat → Nat → Int64} {r2 : Int32} (i : Nat → Int32) (j : Nat → Int64) (a : Nat → Nat → Int32) (b : Nat → Nat → Int64)  (hm : m_Model_execute_b193 n d i j a b = some (i2, j2, a2, b2, r2)) : ∀ (H : Heap) (locs : List Loc) (ls : Array Slot), va_P (dC, dI) classes (MW cI cJ cB h v i j a b) H → va_D A (MW cI cJ cB h v i j a b) → va_S A s.heap H locs → lv_has ls 5 [(0, .ref h)] → W p l e (gA 9 226 d) s m args below meth c H locs 0 0 (MQ below (va_Qv xV (yB dC dI cI cJ cB h v i2 j2 a2 b2 A) A) args s 0 0 A) (F0 m 193 ls [.ref h]) := by
  have htt : ∀ w ∈ tw_T, w.before _ s = true := fun w h => hts w (List.mem_cons_of_mem _ h)
  intro H locs ls hP hD hS hl
  rw [m_Model_execute_b193] at hm
  refine lv_iconst (v := 3) hx hb d_Model_execute_193 (by decide) ?_
  refine lv_goto (tgt := 198) hx hb d_Model_execute_194 (by decide) ?_
  exact lb_Model_execute_198 d l dC dI cI cJ cB adK adV adA h v n hx hb hml hown hts hK hE hA hr hlocks _ _ _ _ _ hm _ _ _ hP hD hS (lv_sub hl [0] rfl)
def m_Model_execute_b166 (n : Nat) (d : Nat) (i : Nat → Int32) (j : Nat → Int64) (a : Nat → Nat → Int32) (b : Nat → Nat → Int64)  : Option ((Nat → Int32) × (Nat → Int64) × (Nat → Nat → Int32) × (Nat → Nat → Int64) × Int32) := if ((i 102)) = ((1 : Int32)) then some (i, j, a, b, (0 : Int32)) else if ((i 102)) = ((2 : Int32)) then m_Model_execute_b193 n d i j a b else if ((i 102)) = ((6 : Int32)) then m_Model_execute_b193 n d i j a b else m_Model_execute_b198 n d i j a b (2 : Int32)
set_option maxHeartbeats 4000000 in
set_option maxRecDepth 100000 in
theorem lb_Model_execute_166 (d : Nat) (l : Launch) (dC : Nat → ClassId) (dI : Nat → Nat → Nat) (cI cJ cB : ClassId) (adK adV adA : Nat → Nat) (h : Nat) (v : Nat → Nat) (n : Nat) {p : Program} {e : Env} {s : State} {m : MethodId} {args : Array Value} {below : List Frame} {meth : Method} {c : Code} {A : Nat → Prop} (hx : p.tables.exec = Jvm.exec) (hb : c.code = b_Model_execute) (hml : c.maxLocals = 5) (hown : s.vm.findClass R_Model = some m.cls) (hts : ∀ w ∈ w_Model_execute, w.before args s = true) (hK : va_K (dC, dI) classes [(cI, .int), (cJ, .long), (cB, .byte)] s) (hE : tw_E adK adV adA A s s.heap) (hA : ∀ q : Nat, s.heap.size ≤ q → A q) (hr : meth.sig.returnType = none) (hlocks : meth.locks = false) {i2 : Nat → Int32} {j2 : Nat → Int64} {a2 : Nat → Nat → Int32} {b2 : Nat → Nat → Int64} {r2 : Int32} (i : Nat → Int32) (j : Nat → Int64) (a : Nat → Nat → Int32) (b : Nat → Nat → Int64)  (hm : m_Model_execute_b166 n d i j a b = some (i2, j2, a2, b2, r2)) : ∀ (H : Heap) (locs : List Loc) (ls : Array Slot), va_P (dC, dI) classes (MW cI cJ cB h v i j a b) H → va_D A (MW cI cJ cB h v i j a b) → va_S A s.heap H locs → lv_has ls 5 [(0, .ref h)] → W p l e (gA 9 226 d) s m args below meth c H locs 0 0 (MQ below (va_Qv xV (yB dC dI cI cJ cB h v i2 j2 a2 b2 A) A) args s 0 0 A) (F0 m 166 ls []) := by
  have htt : ∀ w ∈ tw_T, w.before _ s = true := fun w h => hts w (List.mem_cons_of_mem _ h)
  intro H locs ls hP hD hS hl
  rw [m_Model_execute_b166] at hm
  refine lv_aload_n hx hb d_Model_execute_166 rfl (lv_at hl 0 rfl) ?_
  refine va_get (D := (dC, dI)) (ci := 12) (v := .int (i 102)) (C := R_Model) (T := F_Model) (N := 127) hx hb htt iw_Model hown hK hP 0 yo_12 rfl 102 (Nat.le_of_ble_eq_true rfl) (htt _ lk_Model_559) (fun _ h9 => h9) yg_102 d_Model_execute_167 ?_
  refine lv_iconst (v := 1) hx hb d_Model_execute_170 (by decide) ?_
  refine lv_icmp_ne (tgt := 175) hx hb d_Model_execute_171 (by decide) (fun c_1 => ?_) (fun c_1 => ?_)
  · replace hm := if_f c_1 hm
    refine lv_aload_n hx hb d_Model_execute_175 rfl (lv_at hl 0 rfl) ?_
    refine lv_aload_n hx hb d_Model_execute_176 rfl (lv_at hl 0 rfl) ?_
    refine va_get (D := (dC, dI)) (ci := 12) (v := .int (i 102)) (C := R_Model) (T := F_Model) (N := 127) hx hb htt iw_Model hown hK hP 0 yo_12 rfl 102 (Nat.le_of_ble_eq_true rfl) (htt _ lk_Model_559) (fun _ h9 => h9) yg_102 d_Model_execute_177 ?_
    refine lv_iconst (v := 2) hx hb d_Model_execute_180 (by decide) ?_
    refine lv_icmp_eq (tgt := 193) hx hb d_Model_execute_181 (by decide) (fun c_2 => ?_) (fun c_2 => ?_)
    · replace hm := if_t c_2 hm
      exact lb_Model_execute_193 d l dC dI cI cJ cB adK adV adA h v n hx hb hml hown hts hK hE hA hr hlocks _ _ _ _ hm _ _ _ hP hD hS (lv_sub hl [0] rfl)
    · replace hm := if_f c_2 hm
      refine lv_aload_n hx hb d_Model_execute_184 rfl (lv_at hl 0 rfl) ?_
      refine va_get (D := (dC, dI)) (ci := 12) (v := .int (i 102)) (C := R_Model) (T := F_Model) (N := 127) hx hb htt iw_Model hown hK hP 0 yo_12 rfl 102 (Nat.le_of_ble_eq_true rfl) (htt _ lk_Model_559) (fun _ h9 => h9) yg_102 d_Model_execute_185 ?_
      refine lv_bipush (v := 6) hx hb d_Model_execute_188 (by decide) ?_
      refine lv_icmp_ne (tgt := 197) hx hb d_Model_execute_190 (by decide) (fun c_3 => ?_) (fun c_3 => ?_)
      · replace hm := if_f c_3 hm
        refine lv_iconst (v := 2) hx hb d_Model_execute_197 (by decide) ?_
        exact lb_Model_execute_198 d l dC dI cI cJ cB adK adV adA h v n hx hb hml hown hts hK hE hA hr hlocks _ _ _ _ _ hm _ _ _ hP hD hS (lv_sub hl [0] rfl)
      · replace hm := if_t c_3 hm
        exact lb_Model_execute_193 d l dC dI cI cJ cB adK adV adA h v n hx hb hml hown hts hK hE hA hr hlocks _ _ _ _ hm _ _ _ hP hD hS (lv_sub hl [0] rfl)
  · replace hm := if_t c_1 hm
    obtain ⟨e1i, e1j, e1a, e1b, e3⟩ := re4m hm
    obtain ⟨hP, hD⟩ := y_eq e1i e1j e1a e1b hP hD
    exact W.vret hx hb hr (fun t9 ht hW => ⟨⟨(), rfl, trivial, by rw [ht]; exact hP, hD⟩, hS.F ht⟩) hS.2.2 d_Model_execute_174
def m_Model_execute_b163 (n : Nat) (d : Nat) (rc_113 : (Nat → Int32) → (Nat → Int64) → (Nat → Nat → Int32) → (Nat → Nat → Int64) → Option ((Nat → Int32) × (Nat → Int64) × (Nat → Nat → Int32) × (Nat → Nat → Int64) × Int32)) (i : Nat → Int32) (j : Nat → Int64) (a : Nat → Nat → Int32) (b : Nat → Nat → Int64)  : Option ((Nat → Int32) × (Nat → Int64) × (Nat → Nat → Int32) × (Nat → Nat → Int64) × Int32) := rc_113 i j a b
set_option maxHeartbeats 4000000 in
set_option maxRecDepth 100000 in
theorem lb_Model_execute_163 (d : Nat) (l : Launch) (dC : Nat → ClassId) (dI : Nat → Nat → Nat) (cI cJ cB : ClassId) (adK adV adA : Nat → Nat) (h : Nat) (v : Nat → Nat) (n : Nat) {p : Program} {e : Env} {s : State} {m : MethodId} {args : Array Value} {below : List Frame} {meth : Method} {c : Code} {A : Nat → Prop} (hx : p.tables.exec = Jvm.exec) (hb : c.code = b_Model_execute) (hml : c.maxLocals = 5) (hown : s.vm.findClass R_Model = some m.cls) (hts : ∀ w ∈ w_Model_execute, w.before args s = true) (hK : va_K (dC, dI) classes [(cI, .int), (cJ, .long), (cB, .byte)] s) (hE : tw_E adK adV adA A s s.heap) (hA : ∀ q : Nat, s.heap.size ≤ q → A q) (hr : meth.sig.returnType = none) (hlocks : meth.locks = false) {i2 : Nat → Int32} {j2 : Nat → Int64} {a2 : Nat → Nat → Int32} {b2 : Nat → Nat → Int64} {r2 : Int32} (rc_113 : (Nat → Int32) → (Nat → Int64) → (Nat → Nat → Int32) → (Nat → Nat → Int64) → Option ((Nat → Int32) × (Nat → Int64) × (Nat → Nat → Int32) × (Nat → Nat → Int64) × Int32)) (Hrc_113 : ∀ (i : Nat → Int32) (j : Nat → Int64) (a : Nat → Nat → Int32) (b : Nat → Nat → Int64) , rc_113 i j a b = some (i2, j2, a2, b2, r2) → ∀ (H : Heap) (locs : List Loc) (ls : Array Slot), va_P (dC, dI) classes (MW cI cJ cB h v i j a b) H → va_D A (MW cI cJ cB h v i j a b) → va_S A s.heap H locs → lv_has ls 5 [(0, .ref h)] → W p l e (gA 9 226 d) s m args below meth c H locs 0 0 (MQ below (va_Qv xV (yB dC dI cI cJ cB h v i2 j2 a2 b2 A) A) args s 0 0 A) (F0 m 113 ls [])) (i : Nat → Int32) (j : Nat → Int64) (a : Nat → Nat → Int32) (b : Nat → Nat → Int64)  (hm : m_Model_execute_b163 n d rc_113 i j a b = some (i2, j2, a2, b2, r2)) : ∀ (H : Heap) (locs : List Loc) (ls : Array Slot), va_P (dC, dI) classes (MW cI cJ cB h v i j a b) H → va_D A (MW cI cJ cB h v i j a b) → va_S A s.heap H locs → lv_has ls 5 [(0, .ref h)] → W p l e (gA 9 226 d) s m args below meth c H locs 0 0 (MQ below (va_Qv xV (yB dC dI cI cJ cB h v i2 j2 a2 b2 A) A) args s 0 0 A) (F0 m 163 ls []) := by
  have htt : ∀ w ∈ tw_T, w.before _ s = true := fun w h => hts w (List.mem_cons_of_mem _ h)
  intro H locs ls hP hD hS hl
  rw [m_Model_execute_b163] at hm
  refine lv_goto (tgt := 113) hx hb d_Model_execute_163 (by decide) ?_
  exact Hrc_113 _ _ _ _ hm _ _ _ hP hD hS (lv_sub hl [0] rfl)
def m_Model_execute_b113 (n : Nat) (d : Nat) : Nat → (Nat → Int32) → (Nat → Int64) → (Nat → Nat → Int32) → (Nat → Nat → Int64) → Option ((Nat → Int32) × (Nat → Int64) × (Nat → Nat → Int32) × (Nat → Nat → Int64) × Int32)
  | 0, _, _, _, _ => none
  | f + 1, i, j, a, b => if ((i 102)) = ((0 : Int32)) then ck ((i 105)) 90000 (if ((a 13 (i 105).toNatClampNeg)) ≤ ((i 106)) then m_Model_execute_b166 n d i j a b else om ((mG n d).1 i j a b (0 : Int32)) (fun i_5 j_6 a_7 b_8 r_9 => if ((i_5 102)) = ((0 : Int32)) then if ((lg_cmp r_9 3)) = ((0 : Int32)) then m_Model_execute_b163 n d (m_Model_execute_b113 n d f) i_5 j_6 a_7 b_8 else om (m_Model_fails n i_5 j_6 a_7 b_8 (5 : Int32)) (fun i_13 j_14 a_15 b_16 r_17 => m_Model_execute_b163 n d (m_Model_execute_b113 n d f) i_13 j_14 a_15 b_16) else m_Model_execute_b163 n d (m_Model_execute_b113 n d f) i_5 j_6 a_7 b_8)) else m_Model_execute_b166 n d i j a b
set_option maxHeartbeats 4000000 in
set_option maxRecDepth 100000 in
theorem lb_Model_execute_113 (d : Nat) (l : Launch) (dC : Nat → ClassId) (dI : Nat → Nat → Nat) (cI cJ cB : ClassId) (adK adV adA : Nat → Nat) (h : Nat) (v : Nat → Nat) (n : Nat) {p : Program} {e : Env} {s : State} {m : MethodId} {args : Array Value} {below : List Frame} {meth : Method} {c : Code} {A : Nat → Prop} (hx : p.tables.exec = Jvm.exec) (hb : c.code = b_Model_execute) (hml : c.maxLocals = 5) (hown : s.vm.findClass R_Model = some m.cls) (hts : ∀ w ∈ w_Model_execute, w.before args s = true) (hK : va_K (dC, dI) classes [(cI, .int), (cJ, .long), (cB, .byte)] s) (hE : tw_E adK adV adA A s s.heap) (hA : ∀ q : Nat, s.heap.size ≤ q → A q) (hr : meth.sig.returnType = none) (hlocks : meth.locks = false) {i2 : Nat → Int32} {j2 : Nat → Int64} {a2 : Nat → Nat → Int32} {b2 : Nat → Nat → Int64} {r2 : Int32} : ∀ (f : Nat) (i : Nat → Int32) (j : Nat → Int64) (a : Nat → Nat → Int32) (b : Nat → Nat → Int64) , m_Model_execute_b113 n d f i j a b = some (i2, j2, a2, b2, r2) → ∀ (H : Heap) (locs : List Loc) (ls : Array Slot), va_P (dC, dI) classes (MW cI cJ cB h v i j a b) H → va_D A (MW cI cJ cB h v i j a b) → va_S A s.heap H locs → lv_has ls 5 [(0, .ref h)] → W p l e (gA 9 226 d) s m args below meth c H locs 0 0 (MQ below (va_Qv xV (yB dC dI cI cJ cB h v i2 j2 a2 b2 A) A) args s 0 0 A) (F0 m 113 ls []) := by
  have htt : ∀ w ∈ tw_T, w.before _ s = true := fun w h => hts w (List.mem_cons_of_mem _ h)
  intro f
  induction f with
  | zero =>
    intro i j a b hm
    rw [m_Model_execute_b113] at hm
    cases hm
  | succ f ih =>
    intro i j a b hm H locs ls hP hD hS hl
    rw [m_Model_execute_b113] at hm
    refine lv_aload_n hx hb d_Model_execute_113 rfl (lv_at hl 0 rfl) ?_
    refine va_get (D := (dC, dI)) (ci := 12) (v := .int (i 102)) (C := R_Model) (T := F_Model) (N := 127) hx hb htt iw_Model hown hK hP 0 yo_12 rfl 102 (Nat.le_of_ble_eq_true rfl) (htt _ lk_Model_559) (fun _ h9 => h9) yg_102 d_Model_execute_114 ?_
    refine lv_if_ne (tgt := 166) hx hb d_Model_execute_117 (by decide) (fun c_1 => ?_) (fun c_1 => ?_)
    · replace hm := if_f c_1 hm
      exact lb_Model_execute_166 d l dC dI cI cJ cB adK adV adA h v n hx hb hml hown hts hK hE hA hr hlocks _ _ _ _ hm _ _ _ hP hD hS (lv_sub hl [0] rfl)
    · replace hm := if_t c_1 hm
      refine lv_aload_n hx hb d_Model_execute_120 rfl (lv_at hl 0 rfl) ?_
      refine va_get (D := (dC, dI)) (ci := 12) (v := .int (i 106)) (C := R_Model) (T := F_Model) (N := 127) hx hb htt iw_Model hown hK hP 0 yo_12 rfl 106 (Nat.le_of_ble_eq_true rfl) (htt _ lk_Model_590) (fun _ h9 => h9) yg_106 d_Model_execute_121 ?_
      refine lv_aload_n hx hb d_Model_execute_124 rfl (lv_at hl 0 rfl) ?_
      refine va_get (D := (dC, dI)) (ci := 12) (v := .ref ((v 13))) (C := R_Model) (T := F_Model) (N := 127) hx hb htt iw_Model hown hK hP 0 yo_12 rfl 13 (Nat.le_of_ble_eq_true rfl) (htt _ lk_Model_47) (fun _ h9 => h9) yg_13 d_Model_execute_125 ?_
      refine lv_aload_n hx hb d_Model_execute_128 rfl (lv_at hl 0 rfl) ?_
      refine va_get (D := (dC, dI)) (ci := 12) (v := .int (i 105)) (C := R_Model) (T := F_Model) (N := 127) hx hb htt iw_Model hown hK hP 0 yo_12 rfl 105 (Nat.le_of_ble_eq_true rfl) (htt _ lk_Model_587) (fun _ h9 => h9) yg_105 d_Model_execute_129 ?_
      obtain ⟨h_2, hm⟩ := ck_some hm
      refine va_iald hx hb hK hP 13 0 ya_13 rfl h_2 d_Model_execute_132 ?_
      refine lv_icmp_ge (tgt := 166) hx hb d_Model_execute_133 (by decide) (fun c_3 => ?_) (fun c_3 => ?_)
      · replace hm := if_t c_3 hm
        exact lb_Model_execute_166 d l dC dI cI cJ cB adK adV adA h v n hx hb hml hown hts hK hE hA hr hlocks _ _ _ _ hm _ _ _ hP hD hS (lv_sub hl [0] rfl)
      · replace hm := if_f c_3 hm
        refine lv_aload_n hx hb d_Model_execute_136 rfl (lv_at hl 0 rfl) ?_
        refine lv_iconst (v := 0) hx hb d_Model_execute_137 (by decide) ?_
        obtain ⟨i_5, j_6, a_7, b_8, r_9, h_4, hm⟩ := om_some hm
        have hFc := x_free hD hS hA
        refine va_calll (va_runV (As := [.int 0]) (rest := []) ⟨hx, hb, hml, hown, hts⟩ ((GH_all l dC dI cI cJ cB adK adV adA h v n d).1 H.size _ _ _ _ _ _ _ _ _ _ h_4) (cwV 1 hts (tw_GV tw_cons cw_Model_eval lk_Model_593 in_Model_eval sel_Model_eval ini_Model) rfl rfl rfl ⟨rfl, hd_Model_eval⟩ (gA_up (by decide) (by decide) (by decide))) (ypV hK hP hD hS hE hFc yo_12 rfl) rfl rfl hl.1 rfl (lv_room (Nat.le_of_ble_eq_true rfl)) d_Model_execute_138 ⟨Nat.le_of_ble_eq_true rfl, Nat.le_of_ble_eq_true rfl⟩) hS (fun q _ h => hFc q h) hFc (fun r9 u9 t9 H locs ht hvm e9 hB hz1 hk1 hS => ?_)
        have e9 : r_9 = r9 := e9
        subst e9
        obtain ⟨hP, hD⟩ := y_aft hB ht hFc
        clear hFc hk1 hz1 hvm hB ht
        refine lv_lstore_n (lv' := [(3, .long r_9), (0, .ref h)]) hx hb d_Model_execute_141 rfl hl (by decide) rfl (fun ls hl => ?_)
        refine lv_aload_n hx hb d_Model_execute_142 rfl (lv_at hl 1 rfl) ?_
        refine va_get (D := (dC, dI)) (ci := 12) (v := .int (i_5 102)) (C := R_Model) (T := F_Model) (N := 127) hx hb htt iw_Model hown hK hP 0 yo_12 rfl 102 (Nat.le_of_ble_eq_true rfl) (htt _ lk_Model_559) (fun _ h9 => h9) yg_102 d_Model_execute_143 ?_
        refine lv_if_ne (tgt := 163) hx hb d_Model_execute_146 (by decide) (fun c_10 => ?_) (fun c_10 => ?_)
        · replace hm := if_f c_10 hm
          exact lb_Model_execute_163 d l dC dI cI cJ cB adK adV adA h v n hx hb hml hown hts hK hE hA hr hlocks (m_Model_execute_b113 n d f) ih _ _ _ _ hm _ _ _ hP hD hS (lv_sub hl [1] rfl)
        · replace hm := if_t c_10 hm
          refine lv_lload_n hx hb d_Model_execute_149 rfl (lv_at hl 0 rfl) ?_
          refine lv_ldc2 (v := 3) hx hb hown (htt _ lk_Model_7) d_Model_execute_150 ?_
          refine W.lcmp hx hb d_Model_execute_153 ?_
          refine lv_if_eq (tgt := 163) hx hb d_Model_execute_154 (by decide) (fun c_11 => ?_) (fun c_11 => ?_)
          · replace hm := if_t c_11 hm
            exact lb_Model_execute_163 d l dC dI cI cJ cB adK adV adA h v n hx hb hml hown hts hK hE hA hr hlocks (m_Model_execute_b113 n d f) ih _ _ _ _ hm _ _ _ hP hD hS (lv_sub hl [1] rfl)
          · replace hm := if_f c_11 hm
            refine lv_aload_n hx hb d_Model_execute_157 rfl (lv_at hl 1 rfl) ?_
            refine lv_iconst (v := 5) hx hb d_Model_execute_158 (by decide) ?_
            obtain ⟨i_13, j_14, a_15, b_16, r_17, h_12, hm⟩ := om_some hm
            have hFc := x_free hD hS hA
            refine va_calll (va_runV (As := [.int 5]) (rest := []) ⟨hx, hb, hml, hown, hts⟩ (x_Model_fails l dC dI cI cJ cB adK adV adA h v H.size n h_12) (cwV 1 hts (tw_GV tw_cons cw_Model_fails lk_Model_596 in_Model_fails sel_Model_fails ini_Model) rfl rfl rfl ⟨rfl, hd_Model_fails⟩ (gA_fit (by decide) (by decide))) (ypV hK hP hD hS hE hFc yo_12 rfl) rfl rfl hl.1 rfl (lv_room (Nat.le_of_ble_eq_true rfl)) d_Model_execute_159 ⟨Nat.le_of_ble_eq_true rfl, Nat.le_of_ble_eq_true rfl⟩) hS (fun q _ h => hFc q h) hFc (fun r9 u9 t9 H locs ht hvm e9 hB hz1 hk1 hS => ?_)
            have e9 : r_17 = r9 := e9
            subst e9
            obtain ⟨hP, hD⟩ := y_aft hB ht hFc
            clear hFc hk1 hz1 hvm hB ht
            refine lv_pop2_2 hx hb d_Model_execute_162 rfl ?_
            exact lb_Model_execute_163 d l dC dI cI cJ cB adK adV adA h v n hx hb hml hown hts hK hE hA hr hlocks (m_Model_execute_b113 n d f) ih _ _ _ _ hm _ _ _ hP hD hS (lv_sub hl [1] rfl)
def m_Model_execute (n : Nat) (d : Nat) (i : Nat → Int32) (j : Nat → Int64) (a : Nat → Nat → Int32) (b : Nat → Nat → Int64) (v1 : Int64) : Option ((Nat → Int32) × (Nat → Int64) × (Nat → Nat → Int32) × (Nat → Nat → Int64) × Int32) := ob1 (vp_updL j 108 v1 : Nat → Int64) (fun j_1 => ob1 (upd i 93 0 : Nat → Int32) (fun i_2 => ob1 (upd i_2 94 0 : Nat → Int32) (fun i_3 => ob1 (upd i_3 95 0 : Nat → Int32) (fun i_4 => ob1 (upd i_4 96 0 : Nat → Int32) (fun i_5 => ob1 (upd i_5 97 1 : Nat → Int32) (fun i_6 => ob1 (upd i_6 98 0 : Nat → Int32) (fun i_7 => ob1 (upd i_7 99 0 : Nat → Int32) (fun i_8 => ob1 (upd i_8 102 0 : Nat → Int32) (fun i_9 => ob1 (upd i_9 103 0 : Nat → Int32) (fun i_10 => ob1 (upd i_10 107 0 : Nat → Int32) (fun i_11 => ob1 (upd i_11 116 0 : Nat → Int32) (fun i_12 => ob1 (upd i_12 117 0 : Nat → Int32) (fun i_13 => ob1 (upd i_13 118 0 : Nat → Int32) (fun i_14 => ob1 (upd i_14 92 1 : Nat → Int32) (fun i_15 => om (m_Model_told n i_15 j_1 a b (11 : Nat)) (fun i_17 j_18 a_19 b_20 r_21 => ob1 (vp_updL j_18 124 r_21 : Nat → Int64) (fun j_22 => om (m_Model_told n i_17 j_22 a_19 b_20 (12 : Nat)) (fun i_24 j_25 a_26 b_27 r_28 => ob1 (vp_updL j_25 125 r_28 : Nat → Int64) (fun j_29 => ob0 (m_Model_what n (j_29 101)) (fun r_31 => ob1 (upd i_24 105 r_31 : Nat → Int32) (fun i_32 => ob1 (upd i_32 106 0 : Nat → Int32) (fun i_33 => m_Model_execute_b113 n d n i_33 j_29 a_26 b_27))))))))))))))))))))))
set_option maxHeartbeats 4000000 in
set_option maxRecDepth 100000 in
theorem x_Model_execute (d : Nat) (l : Launch) (dC : Nat → ClassId) (dI : Nat → Nat → Nat) (cI cJ cB : ClassId) (adK adV adA : Nat → Nat) (h : Nat) (v : Nat → Nat) (sz : Nat) (n : Nat) {i : Nat → Int32} {j : Nat → Int64} {a : Nat → Nat → Int32} {b : Nat → Nat → Int64} {v1 : Int64} {i2 : Nat → Int32} {j2 : Nat → Int64} {a2 : Nat → Nat → Int32} {b2 : Nat → Nat → Int64} {r2 : Int32} (hm : m_Model_execute n d i j a b v1 = some (i2, j2, a2, b2, r2)) : Met l y_Model_execute w_Model_execute (gA 9 226 d) (va_Pc [.ref h, .long v1] (yE dC dI cI cJ cB adK adV adA h v i j a b sz)) (va_Qv xV (yB dC dI cI cJ cB h v i2 j2 a2 b2 (va_A (MW cI cJ cB h v i j a b) sz)) (va_A (MW cI cJ cB h v i j a b) sz)) 0 0 ((va_A (MW cI cJ cB h v i j a b) sz)) := by
  refine Met.ofW (cc := b_Model_execute) (maxL := 5) (ret := none) (by decide) rfl ?_
  intro p e s m args below meth c s₁ B hml hv
  obtain ⟨rfl, hsz, hP, hK, hE, hD0⟩ := hv
  have hx := B.exec
  have hb := B.bytes
  have hr := B.returns
  have hts := atoms_spec (ws := w_Model_execute) B.pre
  have htt : ∀ w ∈ tw_T, w.before _ s = true := fun w h => hts w (List.mem_cons_of_mem _ h)
  have hown : s.vm.findClass R_Model = some m.cls := findClass_of_methodNamed B.named
  have hlocks := B.notSynchronized
  subst hsz
  have hD := hD0.self (sz := s.heap.size)
  generalize hAe : (va_A (MW cI cJ cB h v i j a b) s.heap.size) = A at hD hE ⊢
  have hA : ∀ q : Nat, s.heap.size ≤ q → A q := fun q h => by rw [← hAe]; exact Or.inr h
  have hS : va_S A s.heap s.heap [] := va_S.rf
  have hl := lv_entry ([.ref h, .long v1]) (n := 5) (Nat.le_of_ble_eq_true rfl)
  rw [lg_entry_eq]
  generalize (lg_sl ([.ref h, .long v1]) ++ List.replicate (5 - (lg_sl ([.ref h, .long v1])).length) Slot.unset).toArray = ls at hl ⊢
  have hl : lv_has ls 5 [(0, .ref h), (1, .long v1)] := hl
  rw [m_Model_execute] at hm
  refine lv_aload_n hx hb d_Model_execute_0 rfl (lv_at hl 0 rfl) ?_
  refine lv_lload_n hx hb d_Model_execute_1 rfl (lv_at hl 1 rfl) ?_
  refine va_put (D := (dC, dI)) (ci := 12) (v := .long v1) (ty := .long) (C := R_Model) (T := F_Model) (N := 127) hx hb htt iw_Model t_Model t_Model_ok n_Model hown hK hP hD hS 0 yo_12 rfl 108 (Nat.le_of_ble_eq_true rfl) (htt _ lk_Model_547) (fun _ h9 => h9) rfl (by decide +kernel) rfl rfl yl_108 d_Model_execute_2 (fun H locs hP hD hS => ?_)
  obtain ⟨j_1, ej_1⟩ : ∃ y9 : Nat → Int64, y9 = vp_updL j 108 v1 := ⟨_, rfl⟩
  replace hm := ob1_at ej_1 hm
  obtain ⟨hP, hD⟩ := yw_108 ej_1 hP hD
  refine lv_aload_n hx hb d_Model_execute_5 rfl (lv_at hl 0 rfl) ?_
  refine lv_iconst (v := 0) hx hb d_Model_execute_6 (by decide) ?_
  refine va_put (D := (dC, dI)) (ci := 12) (v := .int 0) (ty := .int) (C := R_Model) (T := F_Model) (N := 127) hx hb htt iw_Model t_Model t_Model_ok n_Model hown hK hP hD hS 0 yo_12 rfl 93 (Nat.le_of_ble_eq_true rfl) (htt _ lk_Model_523) (fun _ h9 => h9) rfl (by decide +kernel) rfl rfl yl_93 d_Model_execute_7 (fun H locs hP hD hS => ?_)
  obtain ⟨i_2, ei_2⟩ : ∃ y9 : Nat → Int32, y9 = upd i 93 0 := ⟨_, rfl⟩
  replace hm := ob1_at ei_2 hm
  obtain ⟨hP, hD⟩ := yw_93 ei_2 hP hD
  refine lv_aload_n hx hb d_Model_execute_10 rfl (lv_at hl 0 rfl) ?_
  refine lv_iconst (v := 0) hx hb d_Model_execute_11 (by decide) ?_
  refine va_put (D := (dC, dI)) (ci := 12) (v := .int 0) (ty := .int) (C := R_Model) (T := F_Model) (N := 127) hx hb htt iw_Model t_Model t_Model_ok n_Model hown hK hP hD hS 0 yo_12 rfl 94 (Nat.le_of_ble_eq_true rfl) (htt _ lk_Model_550) (fun _ h9 => h9) rfl (by decide +kernel) rfl rfl yl_94 d_Model_execute_12 (fun H locs hP hD hS => ?_)
  obtain ⟨i_3, ei_3⟩ : ∃ y9 : Nat → Int32, y9 = upd i_2 94 0 := ⟨_, rfl⟩
  replace hm := ob1_at ei_3 hm
  obtain ⟨hP, hD⟩ := yw_94 ei_3 hP hD
  refine lv_aload_n hx hb d_Model_execute_15 rfl (lv_at hl 0 rfl) ?_
  refine lv_iconst (v := 0) hx hb d_Model_execute_16 (by decide) ?_
  refine va_put (D := (dC, dI)) (ci := 12) (v := .int 0) (ty := .int) (C := R_Model) (T := F_Model) (N := 127) hx hb htt iw_Model t_Model t_Model_ok n_Model hown hK hP hD hS 0 yo_12 rfl 95 (Nat.le_of_ble_eq_true rfl) (htt _ lk_Model_553) (fun _ h9 => h9) rfl (by decide +kernel) rfl rfl yl_95 d_Model_execute_17 (fun H locs hP hD hS => ?_)
  obtain ⟨i_4, ei_4⟩ : ∃ y9 : Nat → Int32, y9 = upd i_3 95 0 := ⟨_, rfl⟩
  replace hm := ob1_at ei_4 hm
  obtain ⟨hP, hD⟩ := yw_95 ei_4 hP hD
  refine lv_aload_n hx hb d_Model_execute_20 rfl (lv_at hl 0 rfl) ?_
  refine lv_iconst (v := 0) hx hb d_Model_execute_21 (by decide) ?_
  refine va_put (D := (dC, dI)) (ci := 12) (v := .int 0) (ty := .int) (C := R_Model) (T := F_Model) (N := 127) hx hb htt iw_Model t_Model t_Model_ok n_Model hown hK hP hD hS 0 yo_12 rfl 96 (Nat.le_of_ble_eq_true rfl) (htt _ lk_Model_556) (fun _ h9 => h9) rfl (by decide +kernel) rfl rfl yl_96 d_Model_execute_22 (fun H locs hP hD hS => ?_)
  obtain ⟨i_5, ei_5⟩ : ∃ y9 : Nat → Int32, y9 = upd i_4 96 0 := ⟨_, rfl⟩
  replace hm := ob1_at ei_5 hm
  obtain ⟨hP, hD⟩ := yw_96 ei_5 hP hD
  refine lv_aload_n hx hb d_Model_execute_25 rfl (lv_at hl 0 rfl) ?_
  refine lv_iconst (v := 1) hx hb d_Model_execute_26 (by decide) ?_
  refine va_put (D := (dC, dI)) (ci := 12) (v := .int 1) (ty := .int) (C := R_Model) (T := F_Model) (N := 127) hx hb htt iw_Model t_Model t_Model_ok n_Model hown hK hP hD hS 0 yo_12 rfl 97 (Nat.le_of_ble_eq_true rfl) (htt _ lk_Model_532) (fun _ h9 => h9) rfl (by decide +kernel) rfl rfl yl_97 d_Model_execute_27 (fun H locs hP hD hS => ?_)
  obtain ⟨i_6, ei_6⟩ : ∃ y9 : Nat → Int32, y9 = upd i_5 97 1 := ⟨_, rfl⟩
  replace hm := ob1_at ei_6 hm
  obtain ⟨hP, hD⟩ := yw_97 ei_6 hP hD
  refine lv_aload_n hx hb d_Model_execute_30 rfl (lv_at hl 0 rfl) ?_
  refine lv_iconst (v := 0) hx hb d_Model_execute_31 (by decide) ?_
  refine va_put (D := (dC, dI)) (ci := 12) (v := .int 0) (ty := .int) (C := R_Model) (T := F_Model) (N := 127) hx hb htt iw_Model t_Model t_Model_ok n_Model hown hK hP hD hS 0 yo_12 rfl 98 (Nat.le_of_ble_eq_true rfl) (htt _ lk_Model_535) (fun _ h9 => h9) rfl (by decide +kernel) rfl rfl yl_98 d_Model_execute_32 (fun H locs hP hD hS => ?_)
  obtain ⟨i_7, ei_7⟩ : ∃ y9 : Nat → Int32, y9 = upd i_6 98 0 := ⟨_, rfl⟩
  replace hm := ob1_at ei_7 hm
  obtain ⟨hP, hD⟩ := yw_98 ei_7 hP hD
  refine lv_aload_n hx hb d_Model_execute_35 rfl (lv_at hl 0 rfl) ?_
  refine lv_iconst (v := 0) hx hb d_Model_execute_36 (by decide) ?_
  refine va_put (D := (dC, dI)) (ci := 12) (v := .int 0) (ty := .int) (C := R_Model) (T := F_Model) (N := 127) hx hb htt iw_Model t_Model t_Model_ok n_Model hown hK hP hD hS 0 yo_12 rfl 99 (Nat.le_of_ble_eq_true rfl) (htt _ lk_Model_538) (fun _ h9 => h9) rfl (by decide +kernel) rfl rfl yl_99 d_Model_execute_37 (fun H locs hP hD hS => ?_)
  obtain ⟨i_8, ei_8⟩ : ∃ y9 : Nat → Int32, y9 = upd i_7 99 0 := ⟨_, rfl⟩
  replace hm := ob1_at ei_8 hm
  obtain ⟨hP, hD⟩ := yw_99 ei_8 hP hD
  refine lv_aload_n hx hb d_Model_execute_40 rfl (lv_at hl 0 rfl) ?_
  refine lv_iconst (v := 0) hx hb d_Model_execute_41 (by decide) ?_
  refine va_put (D := (dC, dI)) (ci := 12) (v := .int 0) (ty := .int) (C := R_Model) (T := F_Model) (N := 127) hx hb htt iw_Model t_Model t_Model_ok n_Model hown hK hP hD hS 0 yo_12 rfl 102 (Nat.le_of_ble_eq_true rfl) (htt _ lk_Model_559) (fun _ h9 => h9) rfl (by decide +kernel) rfl rfl yl_102 d_Model_execute_42 (fun H locs hP hD hS => ?_)
  obtain ⟨i_9, ei_9⟩ : ∃ y9 : Nat → Int32, y9 = upd i_8 102 0 := ⟨_, rfl⟩
  replace hm := ob1_at ei_9 hm
  obtain ⟨hP, hD⟩ := yw_102 ei_9 hP hD
  refine lv_aload_n hx hb d_Model_execute_45 rfl (lv_at hl 0 rfl) ?_
  refine lv_iconst (v := 0) hx hb d_Model_execute_46 (by decide) ?_
  refine va_put (D := (dC, dI)) (ci := 12) (v := .int 0) (ty := .int) (C := R_Model) (T := F_Model) (N := 127) hx hb htt iw_Model t_Model t_Model_ok n_Model hown hK hP hD hS 0 yo_12 rfl 103 (Nat.le_of_ble_eq_true rfl) (htt _ lk_Model_541) (fun _ h9 => h9) rfl (by decide +kernel) rfl rfl yl_103 d_Model_execute_47 (fun H locs hP hD hS => ?_)
  obtain ⟨i_10, ei_10⟩ : ∃ y9 : Nat → Int32, y9 = upd i_9 103 0 := ⟨_, rfl⟩
  replace hm := ob1_at ei_10 hm
  obtain ⟨hP, hD⟩ := yw_103 ei_10 hP hD
  refine lv_aload_n hx hb d_Model_execute_50 rfl (lv_at hl 0 rfl) ?_
  refine lv_iconst (v := 0) hx hb d_Model_execute_51 (by decide) ?_
  refine va_put (D := (dC, dI)) (ci := 12) (v := .int 0) (ty := .int) (C := R_Model) (T := F_Model) (N := 127) hx hb htt iw_Model t_Model t_Model_ok n_Model hown hK hP hD hS 0 yo_12 rfl 107 (Nat.le_of_ble_eq_true rfl) (htt _ lk_Model_562) (fun _ h9 => h9) rfl (by decide +kernel) rfl rfl yl_107 d_Model_execute_52 (fun H locs hP hD hS => ?_)
  obtain ⟨i_11, ei_11⟩ : ∃ y9 : Nat → Int32, y9 = upd i_10 107 0 := ⟨_, rfl⟩
  replace hm := ob1_at ei_11 hm
  obtain ⟨hP, hD⟩ := yw_107 ei_11 hP hD
  refine lv_aload_n hx hb d_Model_execute_55 rfl (lv_at hl 0 rfl) ?_
  refine lv_iconst (v := 0) hx hb d_Model_execute_56 (by decide) ?_
  refine va_put (D := (dC, dI)) (ci := 12) (v := .int 0) (ty := .int) (C := R_Model) (T := F_Model) (N := 127) hx hb htt iw_Model t_Model t_Model_ok n_Model hown hK hP hD hS 0 yo_12 rfl 116 (Nat.le_of_ble_eq_true rfl) (htt _ lk_Model_565) (fun _ h9 => h9) rfl (by decide +kernel) rfl rfl yl_116 d_Model_execute_57 (fun H locs hP hD hS => ?_)
  obtain ⟨i_12, ei_12⟩ : ∃ y9 : Nat → Int32, y9 = upd i_11 116 0 := ⟨_, rfl⟩
  replace hm := ob1_at ei_12 hm
  obtain ⟨hP, hD⟩ := yw_116 ei_12 hP hD
  refine lv_aload_n hx hb d_Model_execute_60 rfl (lv_at hl 0 rfl) ?_
  refine lv_iconst (v := 0) hx hb d_Model_execute_61 (by decide) ?_
  refine va_put (D := (dC, dI)) (ci := 12) (v := .int 0) (ty := .int) (C := R_Model) (T := F_Model) (N := 127) hx hb htt iw_Model t_Model t_Model_ok n_Model hown hK hP hD hS 0 yo_12 rfl 117 (Nat.le_of_ble_eq_true rfl) (htt _ lk_Model_568) (fun _ h9 => h9) rfl (by decide +kernel) rfl rfl yl_117 d_Model_execute_62 (fun H locs hP hD hS => ?_)
  obtain ⟨i_13, ei_13⟩ : ∃ y9 : Nat → Int32, y9 = upd i_12 117 0 := ⟨_, rfl⟩
  replace hm := ob1_at ei_13 hm
  obtain ⟨hP, hD⟩ := yw_117 ei_13 hP hD
  refine lv_aload_n hx hb d_Model_execute_65 rfl (lv_at hl 0 rfl) ?_
  refine lv_iconst (v := 0) hx hb d_Model_execute_66 (by decide) ?_
  refine va_put (D := (dC, dI)) (ci := 12) (v := .int 0) (ty := .int) (C := R_Model) (T := F_Model) (N := 127) hx hb htt iw_Model t_Model t_Model_ok n_Model hown hK hP hD hS 0 yo_12 rfl 118 (Nat.le_of_ble_eq_true rfl) (htt _ lk_Model_571) (fun _ h9 => h9) rfl (by decide +kernel) rfl rfl yl_118 d_Model_execute_67 (fun H locs hP hD hS => ?_)
  obtain ⟨i_14, ei_14⟩ : ∃ y9 : Nat → Int32, y9 = upd i_13 118 0 := ⟨_, rfl⟩
  replace hm := ob1_at ei_14 hm
  obtain ⟨hP, hD⟩ := yw_118 ei_14 hP hD
  refine lv_aload_n hx hb d_Model_execute_70 rfl (lv_at hl 0 rfl) ?_
  refine lv_iconst (v := 1) hx hb d_Model_execute_71 (by decide) ?_
  refine va_put (D := (dC, dI)) (ci := 12) (v := .int 1) (ty := .int) (C := R_Model) (T := F_Model) (N := 127) hx hb htt iw_Model t_Model t_Model_ok n_Model hown hK hP hD hS 0 yo_12 rfl 92 (Nat.le_of_ble_eq_true rfl) (htt _ lk_Model_494) (fun _ h9 => h9) rfl (by decide +kernel) rfl rfl yl_92 d_Model_execute_72 (fun H locs hP hD hS => ?_)
  obtain ⟨i_15, ei_15⟩ : ∃ y9 : Nat → Int32, y9 = upd i_14 92 1 := ⟨_, rfl⟩
  replace hm := ob1_at ei_15 hm
  obtain ⟨hP, hD⟩ := yw_92 ei_15 hP hD
  refine lv_aload_n hx hb d_Model_execute_75 rfl (lv_at hl 0 rfl) ?_
  refine lv_aload_n hx hb d_Model_execute_76 rfl (lv_at hl 0 rfl) ?_
  refine tw_ldcwS hx hb hown (show vk_R "TurtleWorldModel" 574 _ (adK 11) s from hE.ref 11 (by decide)) d_Model_execute_77 ?_
  obtain ⟨i_17, j_18, a_19, b_20, r_21, h_16, hm⟩ := om_some hm
  have hFc := x_free hD hS hA
  refine va_calll (va_runV (As := [.ref (adK 11)]) (rest := [.ref h]) ⟨hx, hb, hml, hown, hts⟩ (x_Model_told l dC dI cI cJ cB adK adV adA h v H.size n h_16) (cwV 1 hts (tw_GV tw_cons cw_Model_told lk_Model_576 in_Model_told sel_Model_told ini_Model) rfl rfl rfl ⟨rfl, hd_Model_told⟩ (gA_fit (by decide) (by decide))) (ypV hK hP hD hS hE hFc yo_12 rfl) rfl rfl hl.1 rfl (lv_room (Nat.le_of_ble_eq_true rfl)) d_Model_execute_80 ⟨Nat.le_of_ble_eq_true rfl, Nat.le_of_ble_eq_true rfl⟩) hS (fun q _ h => hFc q h) hFc (fun r9 u9 t9 H locs ht hvm e9 hB hz1 hk1 hS => ?_)
  have e9 : r_21 = r9 := e9
  subst e9
  obtain ⟨hP, hD⟩ := y_aft hB ht hFc
  clear hFc hk1 hz1 hvm hB ht
  refine va_put (D := (dC, dI)) (ci := 12) (v := .long r_21) (ty := .long) (C := R_Model) (T := F_Model) (N := 127) hx hb htt iw_Model t_Model t_Model_ok n_Model hown hK hP hD hS 0 yo_12 rfl 124 (Nat.le_of_ble_eq_true rfl) (htt _ lk_Model_579) (fun _ h9 => h9) rfl (by decide +kernel) rfl rfl yl_124 d_Model_execute_83 (fun H locs hP hD hS => ?_)
  obtain ⟨j_22, ej_22⟩ : ∃ y9 : Nat → Int64, y9 = vp_updL j_18 124 r_21 := ⟨_, rfl⟩
  replace hm := ob1_at ej_22 hm
  obtain ⟨hP, hD⟩ := yw_124 ej_22 hP hD
  refine lv_aload_n hx hb d_Model_execute_86 rfl (lv_at hl 0 rfl) ?_
  refine lv_aload_n hx hb d_Model_execute_87 rfl (lv_at hl 0 rfl) ?_
  refine tw_ldcwS hx hb hown (show vk_R "TurtleWorldModel" 582 _ (adK 12) s from hE.ref 12 (by decide)) d_Model_execute_88 ?_
  obtain ⟨i_24, j_25, a_26, b_27, r_28, h_23, hm⟩ := om_some hm
  have hFc := x_free hD hS hA
  refine va_calll (va_runV (As := [.ref (adK 12)]) (rest := [.ref h]) ⟨hx, hb, hml, hown, hts⟩ (x_Model_told l dC dI cI cJ cB adK adV adA h v H.size n h_23) (cwV 1 hts (tw_GV tw_cons cw_Model_told lk_Model_576 in_Model_told sel_Model_told ini_Model) rfl rfl rfl ⟨rfl, hd_Model_told⟩ (gA_fit (by decide) (by decide))) (ypV hK hP hD hS hE hFc yo_12 rfl) rfl rfl hl.1 rfl (lv_room (Nat.le_of_ble_eq_true rfl)) d_Model_execute_91 ⟨Nat.le_of_ble_eq_true rfl, Nat.le_of_ble_eq_true rfl⟩) hS (fun q _ h => hFc q h) hFc (fun r9 u9 t9 H locs ht hvm e9 hB hz1 hk1 hS => ?_)
  have e9 : r_28 = r9 := e9
  subst e9
  obtain ⟨hP, hD⟩ := y_aft hB ht hFc
  clear hFc hk1 hz1 hvm hB ht
  refine va_put (D := (dC, dI)) (ci := 12) (v := .long r_28) (ty := .long) (C := R_Model) (T := F_Model) (N := 127) hx hb htt iw_Model t_Model t_Model_ok n_Model hown hK hP hD hS 0 yo_12 rfl 125 (Nat.le_of_ble_eq_true rfl) (htt _ lk_Model_584) (fun _ h9 => h9) rfl (by decide +kernel) rfl rfl yl_125 d_Model_execute_94 (fun H locs hP hD hS => ?_)
  obtain ⟨j_29, ej_29⟩ : ∃ y9 : Nat → Int64, y9 = vp_updL j_25 125 r_28 := ⟨_, rfl⟩
  replace hm := ob1_at ej_29 hm
  obtain ⟨hP, hD⟩ := yw_125 ej_29 hP hD
  refine lv_aload_n hx hb d_Model_execute_97 rfl (lv_at hl 0 rfl) ?_
  refine lv_aload_n hx hb d_Model_execute_98 rfl (lv_at hl 0 rfl) ?_
  refine va_get (D := (dC, dI)) (ci := 12) (v := .long (j_29 101)) (C := R_Model) (T := F_Model) (N := 127) hx hb htt iw_Model hown hK hP 0 yo_12 rfl 101 (Nat.le_of_ble_eq_true rfl) (htt _ lk_Model_514) (fun _ h9 => h9) yg_101 d_Model_execute_99 ?_
  obtain ⟨r_31, h_30, hm⟩ := ob0_some hm
  have hFc := x_free0 hS hA
  refine va_calli (va_runS (As := [.long (j_29 101)]) (rest := [.ref h]) ⟨hx, hb, hml, hown, hts⟩ (x_Model_what l H.size n h_30) (va_cwS 1 hts (tw_GS tw_cons cw_Model_what lk_Model_64 st_Model_what ini_Model) rfl rfl rfl hd_Model_what (gA_fit (by decide) (by decide))) xpS0 rfl rfl hl.1 rfl (lv_room (Nat.le_of_ble_eq_true rfl)) d_Model_execute_102 ⟨Nat.le_of_ble_eq_true rfl, Nat.le_of_ble_eq_true rfl⟩) hS (fun q _ h => hFc q h) hFc (fun r9 u9 t9 H locs ht hvm e9 hB hz1 hk1 hS => ?_)
  have e9 : r_31 = r9 := e9
  subst e9
  replace hP := x_keep hP hk1
  clear hFc hk1 hz1 hvm hB ht
  refine va_put (D := (dC, dI)) (ci := 12) (v := .int r_31) (ty := .int) (C := R_Model) (T := F_Model) (N := 127) hx hb htt iw_Model t_Model t_Model_ok n_Model hown hK hP hD hS 0 yo_12 rfl 105 (Nat.le_of_ble_eq_true rfl) (htt _ lk_Model_587) (fun _ h9 => h9) rfl (by decide +kernel) rfl rfl yl_105 d_Model_execute_105 (fun H locs hP hD hS => ?_)
  obtain ⟨i_32, ei_32⟩ : ∃ y9 : Nat → Int32, y9 = upd i_24 105 r_31 := ⟨_, rfl⟩
  replace hm := ob1_at ei_32 hm
  obtain ⟨hP, hD⟩ := yw_105 ei_32 hP hD
  refine lv_aload_n hx hb d_Model_execute_108 rfl (lv_at hl 0 rfl) ?_
  refine lv_iconst (v := 0) hx hb d_Model_execute_109 (by decide) ?_
  refine va_put (D := (dC, dI)) (ci := 12) (v := .int 0) (ty := .int) (C := R_Model) (T := F_Model) (N := 127) hx hb htt iw_Model t_Model t_Model_ok n_Model hown hK hP hD hS 0 yo_12 rfl 106 (Nat.le_of_ble_eq_true rfl) (htt _ lk_Model_590) (fun _ h9 => h9) rfl (by decide +kernel) rfl rfl yl_106 d_Model_execute_110 (fun H locs hP hD hS => ?_)
  obtain ⟨i_33, ei_33⟩ : ∃ y9 : Nat → Int32, y9 = upd i_32 106 0 := ⟨_, rfl⟩
  replace hm := ob1_at ei_33 hm
  obtain ⟨hP, hD⟩ := yw_106 ei_33 hP hD
  exact lb_Model_execute_113 d l dC dI cI cJ cB adK adV adA h v n hx hb hml hown hts hK hE hA hr hlocks n _ _ _ _ hm _ _ _ hP hD hS (lv_sub hl [0] rfl)

def m_Model_line (n : Nat) (d : Nat) (i : Nat → Int32) (j : Nat → Int64) (a : Nat → Nat → Int32) (b : Nat → Nat → Int64)  : Option ((Nat → Int32) × (Nat → Int64) × (Nat → Nat → Int32) × (Nat → Nat → Int64) × Int32) := ob1 (upd i 0 0 : Nat → Int32) (fun i_1 => if ((i_1 92)) = ((1 : Int32)) then some (i_1, j, a, b, (-20)) else ob1 (i_1 18 : Int32) (fun x_3 => ob1 (i_1 19 : Int32) (fun x_4 => om (m_Model_scan n i_1 j a b (0 : Int32)) (fun i_6 j_7 a_8 b_9 r_10 => ob1 (upd i_6 74 0 : Nat → Int32) (fun i_11 => if r_10 = ((0 : Int32)) then ob1 (upd i_11 18 x_3 : Nat → Int32) (fun i_41 => ob1 (upd i_41 19 x_4 : Nat → Int32) (fun i_42 => some (i_42, j_7, a_8, b_9, -(i_42 75)))) else om (m_Model_listOf n i_11 j_7 a_8 b_9 (0 : Int32) (i_11 81)) (fun i_14 j_15 a_16 b_17 r_18 => om (m_Model_tidy n i_14 j_15 a_16 b_17 r_18) (fun i_20 j_21 a_22 b_23 r_24 => ob1 (vp_updL j_21 101 r_24 : Nat → Int64) (fun j_25 => om (m_Model_keep n i_20 j_25 a_22 b_23) (fun i_27 j_28 a_29 b_30 r_31 => ob1 (upd i_27 100 0 : Nat → Int32) (fun i_32 => ob0 (m_Model_size n i_32 j_28 a_29 b_30 (j_28 101)) (fun r_34 => om (m_Model_execute n d i_32 j_28 a_29 b_30 (0 : Int64)) (fun i_36 j_37 a_38 b_39 r_40 => some (i_36, j_37, a_38, b_39, r_34)))))))))))))
set_option maxHeartbeats 4000000 in
set_option maxRecDepth 100000 in
theorem x_Model_line (d : Nat) (l : Launch) (dC : Nat → ClassId) (dI : Nat → Nat → Nat) (cI cJ cB : ClassId) (adK adV adA : Nat → Nat) (h : Nat) (v : Nat → Nat) (sz : Nat) (n : Nat) {i : Nat → Int32} {j : Nat → Int64} {a : Nat → Nat → Int32} {b : Nat → Nat → Int64}  {i2 : Nat → Int32} {j2 : Nat → Int64} {a2 : Nat → Nat → Int32} {b2 : Nat → Nat → Int64} {r2 : Int32} (hm : m_Model_line n d i j a b = some (i2, j2, a2, b2, r2)) : Met l y_Model_line w_Model_line (gA 10 250 d) (va_Pc [.ref h] (yE dC dI cI cJ cB adK adV adA h v i j a b sz)) (va_Qi (xR r2) (yB dC dI cI cJ cB h v i2 j2 a2 b2 (va_A (MW cI cJ cB h v i j a b) sz)) (va_A (MW cI cJ cB h v i j a b) sz)) 0 0 ((va_A (MW cI cJ cB h v i j a b) sz)) := by
  refine Met.ofW (cc := b_Model_line) (maxL := 5) (ret := (some .int)) (by decide) rfl ?_
  intro p e s m args below meth c s₁ B hml hv
  obtain ⟨rfl, hsz, hP, hK, hE, hD0⟩ := hv
  have hx := B.exec
  have hb := B.bytes
  have hr := B.returns
  have hts := atoms_spec (ws := w_Model_line) B.pre
  have htt : ∀ w ∈ tw_T, w.before _ s = true := fun w h => hts w (List.mem_cons_of_mem _ h)
  have hown : s.vm.findClass R_Model = some m.cls := findClass_of_methodNamed B.named
  have hlocks := B.notSynchronized
  subst hsz
  have hD := hD0.self (sz := s.heap.size)
  generalize hAe : (va_A (MW cI cJ cB h v i j a b) s.heap.size) = A at hD hE ⊢
  have hA : ∀ q : Nat, s.heap.size ≤ q → A q := fun q h => by rw [← hAe]; exact Or.inr h
  have hS : va_S A s.heap s.heap [] := va_S.rf
  have hl := lv_entry ([.ref h]) (n := 5) (Nat.le_of_ble_eq_true rfl)
  rw [lg_entry_eq]
  generalize (lg_sl ([.ref h]) ++ List.replicate (5 - (lg_sl ([.ref h])).length) Slot.unset).toArray = ls at hl ⊢
  have hl : lv_has ls 5 [(0, .ref h)] := hl
  rw [m_Model_line] at hm
  refine lv_aload_n hx hb d_Model_line_0 rfl (lv_at hl 0 rfl) ?_
  refine lv_iconst (v := 0) hx hb d_Model_line_1 (by decide) ?_
  refine va_put (D := (dC, dI)) (ci := 12) (v := .int 0) (ty := .int) (C := R_Model) (T := F_Model) (N := 127) hx hb htt iw_Model t_Model t_Model_ok n_Model hown hK hP hD hS 0 yo_12 rfl 0 (Nat.le_of_ble_eq_true rfl) (htt _ lk_Model_1) (fun _ h9 => h9) rfl (by decide +kernel) rfl rfl yl_0 d_Model_line_2 (fun H locs hP hD hS => ?_)
  obtain ⟨i_1, ei_1⟩ : ∃ y9 : Nat → Int32, y9 = upd i 0 0 := ⟨_, rfl⟩
  replace hm := ob1_at ei_1 hm
  obtain ⟨hP, hD⟩ := yw_0 ei_1 hP hD
  refine lv_aload_n hx hb d_Model_line_5 rfl (lv_at hl 0 rfl) ?_
  refine va_get (D := (dC, dI)) (ci := 12) (v := .int (i_1 92)) (C := R_Model) (T := F_Model) (N := 127) hx hb htt iw_Model hown hK hP 0 yo_12 rfl 92 (Nat.le_of_ble_eq_true rfl) (htt _ lk_Model_494) (fun _ h9 => h9) yg_92 d_Model_line_6 ?_
  refine lv_iconst (v := 1) hx hb d_Model_line_9 (by decide) ?_
  refine lv_icmp_ne (tgt := 16) hx hb d_Model_line_10 (by decide) (fun c_2 => ?_) (fun c_2 => ?_)
  · replace hm := if_f c_2 hm
    refine lv_aload_n hx hb d_Model_line_16 rfl (lv_at hl 0 rfl) ?_
    refine va_get (D := (dC, dI)) (ci := 12) (v := .int (i_1 18)) (C := R_Model) (T := F_Model) (N := 127) hx hb htt iw_Model hown hK hP 0 yo_12 rfl 18 (Nat.le_of_ble_eq_true rfl) (htt _ lk_Model_372) (fun _ h9 => h9) yg_18 d_Model_line_17 ?_
    refine lv_topi (fun x_3 ex_3 => ?_)
    replace hm := ob1_at ex_3 hm
    refine lv_istore_n (lv' := [(1, .int x_3), (0, .ref h)]) hx hb d_Model_line_20 rfl hl (by decide) rfl (fun ls hl => ?_)
    refine lv_aload_n hx hb d_Model_line_21 rfl (lv_at hl 1 rfl) ?_
    refine va_get (D := (dC, dI)) (ci := 12) (v := .int (i_1 19)) (C := R_Model) (T := F_Model) (N := 127) hx hb htt iw_Model hown hK hP 0 yo_12 rfl 19 (Nat.le_of_ble_eq_true rfl) (htt _ lk_Model_19) (fun _ h9 => h9) yg_19 d_Model_line_22 ?_
    refine lv_topi (fun x_4 ex_4 => ?_)
    replace hm := ob1_at ex_4 hm
    refine lv_istore_n (lv' := [(2, .int x_4), (1, .int x_3), (0, .ref h)]) hx hb d_Model_line_25 rfl hl (by decide) rfl (fun ls hl => ?_)
    refine lv_aload_n hx hb d_Model_line_26 rfl (lv_at hl 2 rfl) ?_
    refine lv_iconst (v := 0) hx hb d_Model_line_27 (by decide) ?_
    obtain ⟨i_6, j_7, a_8, b_9, r_10, h_5, hm⟩ := om_some hm
    have hFc := x_free hD hS hA
    refine va_calli (va_runV (As := [.int 0]) (rest := []) ⟨hx, hb, hml, hown, hts⟩ (x_Model_scan l dC dI cI cJ cB adK adV adA h v H.size n h_5) (cwV 1 hts (tw_GV tw_cons cw_Model_scan lk_Model_497 in_Model_scan sel_Model_scan ini_Model) rfl rfl rfl ⟨rfl, hd_Model_scan⟩ (gA_fit (by decide) (by decide))) (ypV hK hP hD hS hE hFc yo_12 rfl) rfl rfl hl.1 rfl (lv_room (Nat.le_of_ble_eq_true rfl)) d_Model_line_28 ⟨Nat.le_of_ble_eq_true rfl, Nat.le_of_ble_eq_true rfl⟩) hS (fun q _ h => hFc q h) hFc (fun r9 u9 t9 H locs ht hvm e9 hB hz1 hk1 hS => ?_)
    have e9 : r_10 = r9 := e9
    subst e9
    obtain ⟨hP, hD⟩ := y_aft hB ht hFc
    clear hFc hk1 hz1 hvm hB ht
    refine lv_istore_n (lv' := [(3, .int r_10), (2, .int x_4), (1, .int x_3), (0, .ref h)]) hx hb d_Model_line_31 rfl hl (by decide) rfl (fun ls hl => ?_)
    refine lv_aload_n hx hb d_Model_line_32 rfl (lv_at hl 3 rfl) ?_
    refine lv_iconst (v := 0) hx hb d_Model_line_33 (by decide) ?_
    refine va_put (D := (dC, dI)) (ci := 12) (v := .int 0) (ty := .int) (C := R_Model) (T := F_Model) (N := 127) hx hb htt iw_Model t_Model t_Model_ok n_Model hown hK hP hD hS 0 yo_12 rfl 74 (Nat.le_of_ble_eq_true rfl) (htt _ lk_Model_409) (fun _ h9 => h9) rfl (by decide +kernel) rfl rfl yl_74 d_Model_line_34 (fun H locs hP hD hS => ?_)
    obtain ⟨i_11, ei_11⟩ : ∃ y9 : Nat → Int32, y9 = upd i_6 74 0 := ⟨_, rfl⟩
    replace hm := ob1_at ei_11 hm
    obtain ⟨hP, hD⟩ := yw_74 ei_11 hP hD
    refine lv_iload_n hx hb d_Model_line_37 rfl (lv_at hl 0 rfl) ?_
    refine lv_if_ne (tgt := 57) hx hb d_Model_line_38 (by decide) (fun c_12 => ?_) (fun c_12 => ?_)
    · replace hm := if_f c_12 hm
      refine lv_aload_n hx hb d_Model_line_57 rfl (lv_at hl 3 rfl) ?_
      refine lv_aload_n hx hb d_Model_line_58 rfl (lv_at hl 3 rfl) ?_
      refine lv_aload_n hx hb d_Model_line_59 rfl (lv_at hl 3 rfl) ?_
      refine lv_iconst (v := 0) hx hb d_Model_line_60 (by decide) ?_
      refine lv_aload_n hx hb d_Model_line_61 rfl (lv_at hl 3 rfl) ?_
      refine va_get (D := (dC, dI)) (ci := 12) (v := .int (i_11 81)) (C := R_Model) (T := F_Model) (N := 127) hx hb htt iw_Model hown hK hP 0 yo_12 rfl 81 (Nat.le_of_ble_eq_true rfl) (htt _ lk_Model_425) (fun _ h9 => h9) yg_81 d_Model_line_62 ?_
      obtain ⟨i_14, j_15, a_16, b_17, r_18, h_13, hm⟩ := om_some hm
      have hFc := x_free hD hS hA
      refine va_calll (va_runV (As := [.int 0, .int (i_11 81)]) (rest := [.ref h, .ref h]) ⟨hx, hb, hml, hown, hts⟩ (x_Model_listOf l dC dI cI cJ cB adK adV adA h v H.size n h_13) (cwV 2 hts (tw_GV tw_cons cw_Model_listOf lk_Model_504 in_Model_listOf sel_Model_listOf ini_Model) rfl rfl rfl ⟨rfl, hd_Model_listOf⟩ (gA_fit (by decide) (by decide))) (ypV hK hP hD hS hE hFc yo_12 rfl) rfl rfl hl.1 rfl (lv_room (Nat.le_of_ble_eq_true rfl)) d_Model_line_65 ⟨Nat.le_of_ble_eq_true rfl, Nat.le_of_ble_eq_true rfl⟩) hS (fun q _ h => hFc q h) hFc (fun r9 u9 t9 H locs ht hvm e9 hB hz1 hk1 hS => ?_)
      have e9 : r_18 = r9 := e9
      subst e9
      obtain ⟨hP, hD⟩ := y_aft hB ht hFc
      clear hFc hk1 hz1 hvm hB ht
      obtain ⟨i_20, j_21, a_22, b_23, r_24, h_19, hm⟩ := om_some hm
      have hFc := x_free hD hS hA
      refine va_calll (va_runV (As := [.long r_18]) (rest := [.ref h]) ⟨hx, hb, hml, hown, hts⟩ (x_Model_tidy l dC dI cI cJ cB adK adV adA h v H.size n h_19) (cwV 1 hts (tw_GV tw_cons cw_Model_tidy lk_Model_511 in_Model_tidy sel_Model_tidy ini_Model) rfl rfl rfl ⟨rfl, hd_Model_tidy⟩ (gA_fit (by decide) (by decide))) (ypV hK hP hD hS hE hFc yo_12 rfl) rfl rfl hl.1 rfl (lv_room (Nat.le_of_ble_eq_true rfl)) d_Model_line_68 ⟨Nat.le_of_ble_eq_true rfl, Nat.le_of_ble_eq_true rfl⟩) hS (fun q _ h => hFc q h) hFc (fun r9 u9 t9 H locs ht hvm e9 hB hz1 hk1 hS => ?_)
      have e9 : r_24 = r9 := e9
      subst e9
      obtain ⟨hP, hD⟩ := y_aft hB ht hFc
      clear hFc hk1 hz1 hvm hB ht
      refine va_put (D := (dC, dI)) (ci := 12) (v := .long r_24) (ty := .long) (C := R_Model) (T := F_Model) (N := 127) hx hb htt iw_Model t_Model t_Model_ok n_Model hown hK hP hD hS 0 yo_12 rfl 101 (Nat.le_of_ble_eq_true rfl) (htt _ lk_Model_514) (fun _ h9 => h9) rfl (by decide +kernel) rfl rfl yl_101 d_Model_line_71 (fun H locs hP hD hS => ?_)
      obtain ⟨j_25, ej_25⟩ : ∃ y9 : Nat → Int64, y9 = vp_updL j_21 101 r_24 := ⟨_, rfl⟩
      replace hm := ob1_at ej_25 hm
      obtain ⟨hP, hD⟩ := yw_101 ej_25 hP hD
      refine lv_aload_n hx hb d_Model_line_74 rfl (lv_at hl 3 rfl) ?_
      obtain ⟨i_27, j_28, a_29, b_30, r_31, h_26, hm⟩ := om_some hm
      have hFc := x_free hD hS hA
      refine va_callv (va_runV (As := []) (rest := []) ⟨hx, hb, hml, hown, hts⟩ (x_Model_keep l dC dI cI cJ cB adK adV adA h v H.size n h_26) (cwV 0 hts (tw_GV tw_cons cw_Model_keep lk_Model_517 in_Model_keep sel_Model_keep ini_Model) rfl rfl rfl ⟨rfl, hd_Model_keep⟩ (gA_fit (by decide) (by decide))) (ypV hK hP hD hS hE hFc yo_12 rfl) rfl rfl hl.1 rfl (lv_room (Nat.le_of_ble_eq_true rfl)) d_Model_line_75 ⟨Nat.le_of_ble_eq_true rfl, Nat.le_of_ble_eq_true rfl⟩) hS (fun q _ h => hFc q h) hFc (fun u9 t9 H locs ht hvm e9 hB hz1 hk1 hS => ?_)
      obtain ⟨hP, hD⟩ := y_aft hB ht hFc
      clear hFc hk1 hz1 hvm hB ht
      refine lv_aload_n hx hb d_Model_line_78 rfl (lv_at hl 3 rfl) ?_
      refine lv_iconst (v := 0) hx hb d_Model_line_79 (by decide) ?_
      refine va_put (D := (dC, dI)) (ci := 12) (v := .int 0) (ty := .boolean) (C := R_Model) (T := F_Model) (N := 127) hx hb htt iw_Model t_Model t_Model_ok n_Model hown hK hP hD hS 0 yo_12 rfl 100 (Nat.le_of_ble_eq_true rfl) (htt _ lk_Model_507) (fun _ h9 => h9) rfl (by decide +kernel) (by decide) rfl yl_100 d_Model_line_80 (fun H locs hP hD hS => ?_)
      obtain ⟨i_32, ei_32⟩ : ∃ y9 : Nat → Int32, y9 = upd i_27 100 0 := ⟨_, rfl⟩
      replace hm := ob1_at ei_32 hm
      obtain ⟨hP, hD⟩ := yw_100 ei_32 hP hD
      refine lv_aload_n hx hb d_Model_line_83 rfl (lv_at hl 3 rfl) ?_
      refine lv_aload_n hx hb d_Model_line_84 rfl (lv_at hl 3 rfl) ?_
      refine va_get (D := (dC, dI)) (ci := 12) (v := .long (j_28 101)) (C := R_Model) (T := F_Model) (N := 127) hx hb htt iw_Model hown hK hP 0 yo_12 rfl 101 (Nat.le_of_ble_eq_true rfl) (htt _ lk_Model_514) (fun _ h9 => h9) yg_101 d_Model_line_85 ?_
      obtain ⟨r_34, h_33, hm⟩ := ob0_some hm
      have hFc := x_free0 hS hA
      refine va_calli (va_runV (As := [.long (j_28 101)]) (rest := []) ⟨hx, hb, hml, hown, hts⟩ (x_Model_size l dC dI cI cJ cB adK adV adA h v H.size n h_33) (cwV 1 hts (tw_GV tw_cons cw_Model_size lk_Model_98 in_Model_size sel_Model_size ini_Model) rfl rfl rfl ⟨rfl, hd_Model_size⟩ (gA_fit (by decide) (by decide))) (ypVr hK hP hS hE hFc yo_12 rfl) rfl rfl hl.1 rfl (lv_room (Nat.le_of_ble_eq_true rfl)) d_Model_line_88 ⟨Nat.le_of_ble_eq_true rfl, Nat.le_of_ble_eq_true rfl⟩) hS (fun q _ h => hFc q h) hFc (fun r9 u9 t9 H locs ht hvm e9 hB hz1 hk1 hS => ?_)
      have e9 : r_34 = r9 := e9
      subst e9
      replace hP := x_keep hP hk1
      clear hFc hk1 hz1 hvm hB ht
      refine lv_istore (lv' := [(4, .int r_34), (3, .int r_10), (2, .int x_4), (1, .int x_3), (0, .ref h)]) hx hb d_Model_line_91 hl (by decide) rfl (fun ls hl => ?_)
      refine lv_aload_n hx hb d_Model_line_93 rfl (lv_at hl 4 rfl) ?_
      refine lv_lconst (v := 0) hx hb d_Model_line_94 (by decide) ?_
      obtain ⟨i_36, j_37, a_38, b_39, r_40, h_35, hm⟩ := om_some hm
      have hFc := x_free hD hS hA
      refine va_callv (va_runV (As := [.long 0]) (rest := []) ⟨hx, hb, hml, hown, hts⟩ (x_Model_execute d l dC dI cI cJ cB adK adV adA h v H.size n h_35) (cwV 1 hts (tw_GV tw_cons cw_Model_execute lk_Model_520 in_Model_execute sel_Model_execute ini_Model) rfl rfl rfl ⟨rfl, hd_Model_execute⟩ (gA_upA (by decide) (by decide))) (ypV hK hP hD hS hE hFc yo_12 rfl) rfl rfl hl.1 rfl (lv_room (Nat.le_of_ble_eq_true rfl)) d_Model_line_95 ⟨Nat.le_of_ble_eq_true rfl, Nat.le_of_ble_eq_true rfl⟩) hS (fun q _ h => hFc q h) hFc (fun u9 t9 H locs ht hvm e9 hB hz1 hk1 hS => ?_)
      obtain ⟨hP, hD⟩ := y_aft hB ht hFc
      clear hFc hk1 hz1 hvm hB ht
      refine lv_iload hx hb d_Model_line_98 (lv_at hl 0 rfl) ?_
      obtain ⟨e1i, e1j, e1a, e1b, e3⟩ := re4m hm
      obtain ⟨hP, hD⟩ := y_eq e1i e1j e1a e1b hP hD
      exact W.iret hx hb hr (fun t9 ht hW => ⟨⟨_, (), rfl, e3.symm, by rw [ht]; exact hP, hD⟩, hS.F ht⟩) hS.2.2 d_Model_line_100
    · replace hm := if_t c_12 hm
      refine lv_aload_n hx hb d_Model_line_41 rfl (lv_at hl 3 rfl) ?_
      refine lv_iload_n hx hb d_Model_line_42 rfl (lv_at hl 2 rfl) ?_
      refine va_put (D := (dC, dI)) (ci := 12) (v := .int x_3) (ty := .int) (C := R_Model) (T := F_Model) (N := 127) hx hb htt iw_Model t_Model t_Model_ok n_Model hown hK hP hD hS 0 yo_12 rfl 18 (Nat.le_of_ble_eq_true rfl) (htt _ lk_Model_372) (fun _ h9 => h9) rfl (by decide +kernel) rfl rfl yl_18 d_Model_line_43 (fun H locs hP hD hS => ?_)
      obtain ⟨i_41, ei_41⟩ : ∃ y9 : Nat → Int32, y9 = upd i_11 18 x_3 := ⟨_, rfl⟩
      replace hm := ob1_at ei_41 hm
      obtain ⟨hP, hD⟩ := yw_18 ei_41 hP hD
      refine lv_aload_n hx hb d_Model_line_46 rfl (lv_at hl 3 rfl) ?_
      refine lv_iload_n hx hb d_Model_line_47 rfl (lv_at hl 1 rfl) ?_
      refine va_put (D := (dC, dI)) (ci := 12) (v := .int x_4) (ty := .int) (C := R_Model) (T := F_Model) (N := 127) hx hb htt iw_Model t_Model t_Model_ok n_Model hown hK hP hD hS 0 yo_12 rfl 19 (Nat.le_of_ble_eq_true rfl) (htt _ lk_Model_19) (fun _ h9 => h9) rfl (by decide +kernel) rfl rfl yl_19 d_Model_line_48 (fun H locs hP hD hS => ?_)
      obtain ⟨i_42, ei_42⟩ : ∃ y9 : Nat → Int32, y9 = upd i_41 19 x_4 := ⟨_, rfl⟩
      replace hm := ob1_at ei_42 hm
      obtain ⟨hP, hD⟩ := yw_19 ei_42 hP hD
      refine lv_aload_n hx hb d_Model_line_51 rfl (lv_at hl 3 rfl) ?_
      refine va_get (D := (dC, dI)) (ci := 12) (v := .int (i_42 75)) (C := R_Model) (T := F_Model) (N := 127) hx hb htt iw_Model hown hK hP 0 yo_12 rfl 75 (Nat.le_of_ble_eq_true rfl) (htt _ lk_Model_416) (fun _ h9 => h9) yg_75 d_Model_line_52 ?_
      refine lv_ineg hx hb d_Model_line_55 ?_
      obtain ⟨e1i, e1j, e1a, e1b, e3⟩ := re4m hm
      obtain ⟨hP, hD⟩ := y_eq e1i e1j e1a e1b hP hD
      exact W.iret hx hb hr (fun t9 ht hW => ⟨⟨_, (), rfl, e3.symm, by rw [ht]; exact hP, hD⟩, hS.F ht⟩) hS.2.2 d_Model_line_56
  · replace hm := if_t c_2 hm
    refine lv_bipush (v := -20) hx hb d_Model_line_13 (by decide) ?_
    obtain ⟨e1i, e1j, e1a, e1b, e3⟩ := re4m hm
    obtain ⟨hP, hD⟩ := y_eq e1i e1j e1a e1b hP hD
    exact W.iret hx hb hr (fun t9 ht hW => ⟨⟨_, (), rfl, e3.symm, by rw [ht]; exact hP, hD⟩, hS.F ht⟩) hS.2.2 d_Model_line_15

def m_Model_run (n : Nat) (d : Nat) (i : Nat → Int32) (j : Nat → Int64) (a : Nat → Nat → Int32) (b : Nat → Nat → Int64) (v1 : Int32) : Option ((Nat → Int32) × (Nat → Int64) × (Nat → Nat → Int32) × (Nat → Nat → Int64) × Int32) := ob1 (upd i 0 0 : Nat → Int32) (fun i_1 => if ((i_1 92)) = ((1 : Int32)) then if ((1 : Int32)) ≤ v1 then ob1 (i_1 93 : Int32) (fun x_4 => om (m_Model_putBack n i_1 j a b) (fun i_6 j_7 a_8 b_9 r_10 => om (m_Model_execute n d i_6 j_7 a_8 b_9 (x_4.toInt64 + v1.toInt64)) (fun i_12 j_13 a_14 b_15 r_16 => some (i_12, j_13, a_14, b_15, (i_12 93) - x_4)))) else some (i_1, j, a, b, 0) else some (i_1, j, a, b, 0))
set_option maxHeartbeats 4000000 in
set_option maxRecDepth 100000 in
theorem x_Model_run (d : Nat) (l : Launch) (dC : Nat → ClassId) (dI : Nat → Nat → Nat) (cI cJ cB : ClassId) (adK adV adA : Nat → Nat) (h : Nat) (v : Nat → Nat) (sz : Nat) (n : Nat) {i : Nat → Int32} {j : Nat → Int64} {a : Nat → Nat → Int32} {b : Nat → Nat → Int64} {v1 : Int32} {i2 : Nat → Int32} {j2 : Nat → Int64} {a2 : Nat → Nat → Int32} {b2 : Nat → Nat → Int64} {r2 : Int32} (hm : m_Model_run n d i j a b v1 = some (i2, j2, a2, b2, r2)) : Met l y_Model_run w_Model_run (gA 10 250 d) (va_Pc [.ref h, .int v1] (yE dC dI cI cJ cB adK adV adA h v i j a b sz)) (va_Qi (xR r2) (yB dC dI cI cJ cB h v i2 j2 a2 b2 (va_A (MW cI cJ cB h v i j a b) sz)) (va_A (MW cI cJ cB h v i j a b) sz)) 0 0 ((va_A (MW cI cJ cB h v i j a b) sz)) := by
  refine Met.ofW (cc := b_Model_run) (maxL := 3) (ret := (some .int)) (by decide) rfl ?_
  intro p e s m args below meth c s₁ B hml hv
  obtain ⟨rfl, hsz, hP, hK, hE, hD0⟩ := hv
  have hx := B.exec
  have hb := B.bytes
  have hr := B.returns
  have hts := atoms_spec (ws := w_Model_run) B.pre
  have htt : ∀ w ∈ tw_T, w.before _ s = true := fun w h => hts w (List.mem_cons_of_mem _ h)
  have hown : s.vm.findClass R_Model = some m.cls := findClass_of_methodNamed B.named
  have hlocks := B.notSynchronized
  subst hsz
  have hD := hD0.self (sz := s.heap.size)
  generalize hAe : (va_A (MW cI cJ cB h v i j a b) s.heap.size) = A at hD hE ⊢
  have hA : ∀ q : Nat, s.heap.size ≤ q → A q := fun q h => by rw [← hAe]; exact Or.inr h
  have hS : va_S A s.heap s.heap [] := va_S.rf
  have hl := lv_entry ([.ref h, .int v1]) (n := 3) (Nat.le_of_ble_eq_true rfl)
  rw [lg_entry_eq]
  generalize (lg_sl ([.ref h, .int v1]) ++ List.replicate (3 - (lg_sl ([.ref h, .int v1])).length) Slot.unset).toArray = ls at hl ⊢
  have hl : lv_has ls 3 [(0, .ref h), (1, .int v1)] := hl
  rw [m_Model_run] at hm
  refine lv_aload_n hx hb d_Model_run_0 rfl (lv_at hl 0 rfl) ?_
  refine lv_iconst (v := 0) hx hb d_Model_run_1 (by decide) ?_
  refine va_put (D := (dC, dI)) (ci := 12) (v := .int 0) (ty := .int) (C := R_Model) (T := F_Model) (N := 127) hx hb htt iw_Model t_Model t_Model_ok n_Model hown hK hP hD hS 0 yo_12 rfl 0 (Nat.le_of_ble_eq_true rfl) (htt _ lk_Model_1) (fun _ h9 => h9) rfl (by decide +kernel) rfl rfl yl_0 d_Model_run_2 (fun H locs hP hD hS => ?_)
  obtain ⟨i_1, ei_1⟩ : ∃ y9 : Nat → Int32, y9 = upd i 0 0 := ⟨_, rfl⟩
  replace hm := ob1_at ei_1 hm
  obtain ⟨hP, hD⟩ := yw_0 ei_1 hP hD
  refine lv_aload_n hx hb d_Model_run_5 rfl (lv_at hl 0 rfl) ?_
  refine va_get (D := (dC, dI)) (ci := 12) (v := .int (i_1 92)) (C := R_Model) (T := F_Model) (N := 127) hx hb htt iw_Model hown hK hP 0 yo_12 rfl 92 (Nat.le_of_ble_eq_true rfl) (htt _ lk_Model_494) (fun _ h9 => h9) yg_92 d_Model_run_6 ?_
  refine lv_iconst (v := 1) hx hb d_Model_run_9 (by decide) ?_
  refine lv_icmp_ne (tgt := 18) hx hb d_Model_run_10 (by decide) (fun c_2 => ?_) (fun c_2 => ?_)
  · replace hm := if_f c_2 hm
    refine lv_iconst (v := 0) hx hb d_Model_run_18 (by decide) ?_
    obtain ⟨e1i, e1j, e1a, e1b, e3⟩ := re4m hm
    obtain ⟨hP, hD⟩ := y_eq e1i e1j e1a e1b hP hD
    exact W.iret hx hb hr (fun t9 ht hW => ⟨⟨_, (), rfl, e3.symm, by rw [ht]; exact hP, hD⟩, hS.F ht⟩) hS.2.2 d_Model_run_19
  · replace hm := if_t c_2 hm
    refine lv_iload_n hx hb d_Model_run_13 rfl (lv_at hl 1 rfl) ?_
    refine lv_iconst (v := 1) hx hb d_Model_run_14 (by decide) ?_
    refine lv_icmp_ge (tgt := 20) hx hb d_Model_run_15 (by decide) (fun c_3 => ?_) (fun c_3 => ?_)
    · replace hm := if_t c_3 hm
      refine lv_aload_n hx hb d_Model_run_20 rfl (lv_at hl 0 rfl) ?_
      refine va_get (D := (dC, dI)) (ci := 12) (v := .int (i_1 93)) (C := R_Model) (T := F_Model) (N := 127) hx hb htt iw_Model hown hK hP 0 yo_12 rfl 93 (Nat.le_of_ble_eq_true rfl) (htt _ lk_Model_523) (fun _ h9 => h9) yg_93 d_Model_run_21 ?_
      refine lv_topi (fun x_4 ex_4 => ?_)
      replace hm := ob1_at ex_4 hm
      refine lv_istore_n (lv' := [(2, .int x_4), (0, .ref h), (1, .int v1)]) hx hb d_Model_run_24 rfl hl (by decide) rfl (fun ls hl => ?_)
      refine lv_aload_n hx hb d_Model_run_25 rfl (lv_at hl 1 rfl) ?_
      obtain ⟨i_6, j_7, a_8, b_9, r_10, h_5, hm⟩ := om_some hm
      have hFc := x_free hD hS hA
      refine va_callv (va_runV (As := []) (rest := []) ⟨hx, hb, hml, hown, hts⟩ (x_Model_putBack l dC dI cI cJ cB adK adV adA h v H.size n h_5) (cwV 0 hts (tw_GV tw_cons cw_Model_putBack lk_Model_526 in_Model_putBack sel_Model_putBack ini_Model) rfl rfl rfl ⟨rfl, hd_Model_putBack⟩ (gA_fit (by decide) (by decide))) (ypV hK hP hD hS hE hFc yo_12 rfl) rfl rfl hl.1 rfl (lv_room (Nat.le_of_ble_eq_true rfl)) d_Model_run_26 ⟨Nat.le_of_ble_eq_true rfl, Nat.le_of_ble_eq_true rfl⟩) hS (fun q _ h => hFc q h) hFc (fun u9 t9 H locs ht hvm e9 hB hz1 hk1 hS => ?_)
      obtain ⟨hP, hD⟩ := y_aft hB ht hFc
      clear hFc hk1 hz1 hvm hB ht
      refine lv_aload_n hx hb d_Model_run_29 rfl (lv_at hl 1 rfl) ?_
      refine lv_iload_n hx hb d_Model_run_30 rfl (lv_at hl 0 rfl) ?_
      refine lv_i2l hx hb d_Model_run_31 rfl ?_
      refine lv_iload_n hx hb d_Model_run_32 rfl (lv_at hl 2 rfl) ?_
      refine lv_i2l hx hb d_Model_run_33 rfl ?_
      refine lv_ladd hx hb d_Model_run_34 ?_
      obtain ⟨i_12, j_13, a_14, b_15, r_16, h_11, hm⟩ := om_some hm
      have hFc := x_free hD hS hA
      refine va_callv (va_runV (As := [.long (x_4.toInt64 + v1.toInt64)]) (rest := []) ⟨hx, hb, hml, hown, hts⟩ (x_Model_execute d l dC dI cI cJ cB adK adV adA h v H.size n h_11) (cwV 1 hts (tw_GV tw_cons cw_Model_execute lk_Model_520 in_Model_execute sel_Model_execute ini_Model) rfl rfl rfl ⟨rfl, hd_Model_execute⟩ (gA_upA (by decide) (by decide))) (ypV hK hP hD hS hE hFc yo_12 rfl) rfl rfl hl.1 rfl (lv_room (Nat.le_of_ble_eq_true rfl)) d_Model_run_35 ⟨Nat.le_of_ble_eq_true rfl, Nat.le_of_ble_eq_true rfl⟩) hS (fun q _ h => hFc q h) hFc (fun u9 t9 H locs ht hvm e9 hB hz1 hk1 hS => ?_)
      obtain ⟨hP, hD⟩ := y_aft hB ht hFc
      clear hFc hk1 hz1 hvm hB ht
      refine lv_aload_n hx hb d_Model_run_38 rfl (lv_at hl 1 rfl) ?_
      refine va_get (D := (dC, dI)) (ci := 12) (v := .int (i_12 93)) (C := R_Model) (T := F_Model) (N := 127) hx hb htt iw_Model hown hK hP 0 yo_12 rfl 93 (Nat.le_of_ble_eq_true rfl) (htt _ lk_Model_523) (fun _ h9 => h9) yg_93 d_Model_run_39 ?_
      refine lv_iload_n hx hb d_Model_run_42 rfl (lv_at hl 0 rfl) ?_
      refine lv_isub hx hb d_Model_run_43 ?_
      obtain ⟨e1i, e1j, e1a, e1b, e3⟩ := re4m hm
      obtain ⟨hP, hD⟩ := y_eq e1i e1j e1a e1b hP hD
      exact W.iret hx hb hr (fun t9 ht hW => ⟨⟨_, (), rfl, e3.symm, by rw [ht]; exact hP, hD⟩, hS.F ht⟩) hS.2.2 d_Model_run_44
    · replace hm := if_f c_3 hm
      refine lv_iconst (v := 0) hx hb d_Model_run_18 (by decide) ?_
      obtain ⟨e1i, e1j, e1a, e1b, e3⟩ := re4m hm
      obtain ⟨hP, hD⟩ := y_eq e1i e1j e1a e1b hP hD
      exact W.iret hx hb hr (fun t9 ht hW => ⟨⟨_, (), rfl, e3.symm, by rw [ht]; exact hP, hD⟩, hS.F ht⟩) hS.2.2 d_Model_run_19

def m_Model_go_b41 (n : Nat) (d : Nat) (i : Nat → Int32) (j : Nat → Int64) (a : Nat → Nat → Int32) (b : Nat → Nat → Int64) (v1 : Int32) : Option ((Nat → Int32) × (Nat → Int64) × (Nat → Nat → Int32) × (Nat → Nat → Int64) × Int32) := om (m_Model_putBack n i j a b) (fun i_2 j_3 a_4 b_5 r_6 => om (m_Model_execute n d i_2 j_3 a_4 b_5 v1.toInt64) (fun i_8 j_9 a_10 b_11 r_12 => some (i_8, j_9, a_10, b_11, 1)))
set_option maxHeartbeats 4000000 in
set_option maxRecDepth 100000 in
theorem lb_Model_go_41 (d : Nat) (l : Launch) (dC : Nat → ClassId) (dI : Nat → Nat → Nat) (cI cJ cB : ClassId) (adK adV adA : Nat → Nat) (h : Nat) (v : Nat → Nat) (n : Nat) {p : Program} {e : Env} {s : State} {m : MethodId} {args : Array Value} {below : List Frame} {meth : Method} {c : Code} {A : Nat → Prop} (hx : p.tables.exec = Jvm.exec) (hb : c.code = b_Model_go) (hml : c.maxLocals = 2) (hown : s.vm.findClass R_Model = some m.cls) (hts : ∀ w ∈ w_Model_go, w.before args s = true) (hK : va_K (dC, dI) classes [(cI, .int), (cJ, .long), (cB, .byte)] s) (hE : tw_E adK adV adA A s s.heap) (hA : ∀ q : Nat, s.heap.size ≤ q → A q) (hr : meth.sig.returnType = (some .boolean)) (hlocks : meth.locks = false) {i2 : Nat → Int32} {j2 : Nat → Int64} {a2 : Nat → Nat → Int32} {b2 : Nat → Nat → Int64} {r2 : Int32} (i : Nat → Int32) (j : Nat → Int64) (a : Nat → Nat → Int32) (b : Nat → Nat → Int64) (v1 : Int32) (hm : m_Model_go_b41 n d i j a b v1 = some (i2, j2, a2, b2, r2)) : ∀ (H : Heap) (locs : List Loc) (ls : Array Slot), va_P (dC, dI) classes (MW cI cJ cB h v i j a b) H → va_D A (MW cI cJ cB h v i j a b) → va_S A s.heap H locs → lv_has ls 2 [(0, .ref h), (1, .int v1)] → W p l e (gA 10 250 d) s m args below meth c H locs 0 0 (MQ below (va_Qi (xR r2) (yB dC dI cI cJ cB h v i2 j2 a2 b2 A) A) args s 0 0 A) (F0 m 41 ls []) := by
  have htt : ∀ w ∈ tw_T, w.before _ s = true := fun w h => hts w (List.mem_cons_of_mem _ h)
  intro H locs ls hP hD hS hl
  rw [m_Model_go_b41] at hm
  refine lv_aload_n hx hb d_Model_go_41 rfl (lv_at hl 0 rfl) ?_
  obtain ⟨i_2, j_3, a_4, b_5, r_6, h_1, hm⟩ := om_some hm
  have hFc := x_free hD hS hA
  refine va_callv (va_runV (As := []) (rest := []) ⟨hx, hb, hml, hown, hts⟩ (x_Model_putBack l dC dI cI cJ cB adK adV adA h v H.size n h_1) (cwV 0 hts (tw_GV tw_cons cw_Model_putBack lk_Model_526 in_Model_putBack sel_Model_putBack ini_Model) rfl rfl rfl ⟨rfl, hd_Model_putBack⟩ (gA_fit (by decide) (by decide))) (ypV hK hP hD hS hE hFc yo_12 rfl) rfl rfl hl.1 rfl (lv_room (Nat.le_of_ble_eq_true rfl)) d_Model_go_42 ⟨Nat.le_of_ble_eq_true rfl, Nat.le_of_ble_eq_true rfl⟩) hS (fun q _ h => hFc q h) hFc (fun u9 t9 H locs ht hvm e9 hB hz1 hk1 hS => ?_)
  obtain ⟨hP, hD⟩ := y_aft hB ht hFc
  clear hFc hk1 hz1 hvm hB ht
  refine lv_aload_n hx hb d_Model_go_45 rfl (lv_at hl 0 rfl) ?_
  refine lv_iload_n hx hb d_Model_go_46 rfl (lv_at hl 1 rfl) ?_
  refine lv_i2l hx hb d_Model_go_47 rfl ?_
  obtain ⟨i_8, j_9, a_10, b_11, r_12, h_7, hm⟩ := om_some hm
  have hFc := x_free hD hS hA
  refine va_callv (va_runV (As := [.long v1.toInt64]) (rest := []) ⟨hx, hb, hml, hown, hts⟩ (x_Model_execute d l dC dI cI cJ cB adK adV adA h v H.size n h_7) (cwV 1 hts (tw_GV tw_cons cw_Model_execute lk_Model_520 in_Model_execute sel_Model_execute ini_Model) rfl rfl rfl ⟨rfl, hd_Model_execute⟩ (gA_upA (by decide) (by decide))) (ypV hK hP hD hS hE hFc yo_12 rfl) rfl rfl hl.1 rfl (lv_room (Nat.le_of_ble_eq_true rfl)) d_Model_go_48 ⟨Nat.le_of_ble_eq_true rfl, Nat.le_of_ble_eq_true rfl⟩) hS (fun q _ h => hFc q h) hFc (fun u9 t9 H locs ht hvm e9 hB hz1 hk1 hS => ?_)
  obtain ⟨hP, hD⟩ := y_aft hB ht hFc
  clear hFc hk1 hz1 hvm hB ht
  refine lv_iconst (v := 1) hx hb d_Model_go_51 (by decide) ?_
  obtain ⟨e1i, e1j, e1a, e1b, e3⟩ := re4m hm
  obtain ⟨hP, hD⟩ := y_eq e1i e1j e1a e1b hP hD
  exact W.zret hx hb hr (by decide) (fun t9 ht hW => ⟨⟨_, (), rfl, e3.symm, by rw [ht]; exact hP, hD⟩, hS.F ht⟩) hS.2.2 d_Model_go_52
def m_Model_go (n : Nat) (d : Nat) (i : Nat → Int32) (j : Nat → Int64) (a : Nat → Nat → Int32) (b : Nat → Nat → Int64) (v1 : Int32) : Option ((Nat → Int32) × (Nat → Int64) × (Nat → Nat → Int32) × (Nat → Nat → Int64) × Int32) := ob1 (upd i 0 0 : Nat → Int32) (fun i_1 => if ((i_1 92)) = ((0 : Int32)) then some (i_1, j, a, b, 0) else if v1 < ((0 : Int32)) then some (i_1, j, a, b, 0) else if ((i_1 93)) < v1 then some (i_1, j, a, b, 0) else if ((i_1 92)) ≤ ((1 : Int32)) then m_Model_go_b41 n d i_1 j a b v1 else if ((i_1 100)) = ((0 : Int32)) then m_Model_go_b41 n d i_1 j a b v1 else some (i_1, j, a, b, 0))
set_option maxHeartbeats 4000000 in
set_option maxRecDepth 100000 in
theorem x_Model_go (d : Nat) (l : Launch) (dC : Nat → ClassId) (dI : Nat → Nat → Nat) (cI cJ cB : ClassId) (adK adV adA : Nat → Nat) (h : Nat) (v : Nat → Nat) (sz : Nat) (n : Nat) {i : Nat → Int32} {j : Nat → Int64} {a : Nat → Nat → Int32} {b : Nat → Nat → Int64} {v1 : Int32} {i2 : Nat → Int32} {j2 : Nat → Int64} {a2 : Nat → Nat → Int32} {b2 : Nat → Nat → Int64} {r2 : Int32} (hm : m_Model_go n d i j a b v1 = some (i2, j2, a2, b2, r2)) : Met l y_Model_go w_Model_go (gA 10 250 d) (va_Pc [.ref h, .int v1] (yE dC dI cI cJ cB adK adV adA h v i j a b sz)) (va_Qi (xR r2) (yB dC dI cI cJ cB h v i2 j2 a2 b2 (va_A (MW cI cJ cB h v i j a b) sz)) (va_A (MW cI cJ cB h v i j a b) sz)) 0 0 ((va_A (MW cI cJ cB h v i j a b) sz)) := by
  refine Met.ofW (cc := b_Model_go) (maxL := 2) (ret := (some .boolean)) (by decide) rfl ?_
  intro p e s m args below meth c s₁ B hml hv
  obtain ⟨rfl, hsz, hP, hK, hE, hD0⟩ := hv
  have hx := B.exec
  have hb := B.bytes
  have hr := B.returns
  have hts := atoms_spec (ws := w_Model_go) B.pre
  have htt : ∀ w ∈ tw_T, w.before _ s = true := fun w h => hts w (List.mem_cons_of_mem _ h)
  have hown : s.vm.findClass R_Model = some m.cls := findClass_of_methodNamed B.named
  have hlocks := B.notSynchronized
  subst hsz
  have hD := hD0.self (sz := s.heap.size)
  generalize hAe : (va_A (MW cI cJ cB h v i j a b) s.heap.size) = A at hD hE ⊢
  have hA : ∀ q : Nat, s.heap.size ≤ q → A q := fun q h => by rw [← hAe]; exact Or.inr h
  have hS : va_S A s.heap s.heap [] := va_S.rf
  have hl := lv_entry ([.ref h, .int v1]) (n := 2) (Nat.le_of_ble_eq_true rfl)
  rw [lg_entry_eq]
  generalize (lg_sl ([.ref h, .int v1]) ++ List.replicate (2 - (lg_sl ([.ref h, .int v1])).length) Slot.unset).toArray = ls at hl ⊢
  have hl : lv_has ls 2 [(0, .ref h), (1, .int v1)] := hl
  rw [m_Model_go] at hm
  refine lv_aload_n hx hb d_Model_go_0 rfl (lv_at hl 0 rfl) ?_
  refine lv_iconst (v := 0) hx hb d_Model_go_1 (by decide) ?_
  refine va_put (D := (dC, dI)) (ci := 12) (v := .int 0) (ty := .int) (C := R_Model) (T := F_Model) (N := 127) hx hb htt iw_Model t_Model t_Model_ok n_Model hown hK hP hD hS 0 yo_12 rfl 0 (Nat.le_of_ble_eq_true rfl) (htt _ lk_Model_1) (fun _ h9 => h9) rfl (by decide +kernel) rfl rfl yl_0 d_Model_go_2 (fun H locs hP hD hS => ?_)
  obtain ⟨i_1, ei_1⟩ : ∃ y9 : Nat → Int32, y9 = upd i 0 0 := ⟨_, rfl⟩
  replace hm := ob1_at ei_1 hm
  obtain ⟨hP, hD⟩ := yw_0 ei_1 hP hD
  refine lv_aload_n hx hb d_Model_go_5 rfl (lv_at hl 0 rfl) ?_
  refine va_get (D := (dC, dI)) (ci := 12) (v := .int (i_1 92)) (C := R_Model) (T := F_Model) (N := 127) hx hb htt iw_Model hown hK hP 0 yo_12 rfl 92 (Nat.le_of_ble_eq_true rfl) (htt _ lk_Model_494) (fun _ h9 => h9) yg_92 d_Model_go_6 ?_
  refine lv_if_eq (tgt := 39) hx hb d_Model_go_9 (by decide) (fun c_2 => ?_) (fun c_2 => ?_)
  · replace hm := if_t c_2 hm
    refine lv_iconst (v := 0) hx hb d_Model_go_39 (by decide) ?_
    obtain ⟨e1i, e1j, e1a, e1b, e3⟩ := re4m hm
    obtain ⟨hP, hD⟩ := y_eq e1i e1j e1a e1b hP hD
    exact W.zret hx hb hr (by decide) (fun t9 ht hW => ⟨⟨_, (), rfl, e3.symm, by rw [ht]; exact hP, hD⟩, hS.F ht⟩) hS.2.2 d_Model_go_40
  · replace hm := if_f c_2 hm
    refine lv_iload_n hx hb d_Model_go_12 rfl (lv_at hl 1 rfl) ?_
    refine lv_if_lt (tgt := 39) hx hb d_Model_go_13 (by decide) (fun c_3 => ?_) (fun c_3 => ?_)
    · replace hm := if_t c_3 hm
      refine lv_iconst (v := 0) hx hb d_Model_go_39 (by decide) ?_
      obtain ⟨e1i, e1j, e1a, e1b, e3⟩ := re4m hm
      obtain ⟨hP, hD⟩ := y_eq e1i e1j e1a e1b hP hD
      exact W.zret hx hb hr (by decide) (fun t9 ht hW => ⟨⟨_, (), rfl, e3.symm, by rw [ht]; exact hP, hD⟩, hS.F ht⟩) hS.2.2 d_Model_go_40
    · replace hm := if_f c_3 hm
      refine lv_iload_n hx hb d_Model_go_16 rfl (lv_at hl 1 rfl) ?_
      refine lv_aload_n hx hb d_Model_go_17 rfl (lv_at hl 0 rfl) ?_
      refine va_get (D := (dC, dI)) (ci := 12) (v := .int (i_1 93)) (C := R_Model) (T := F_Model) (N := 127) hx hb htt iw_Model hown hK hP 0 yo_12 rfl 93 (Nat.le_of_ble_eq_true rfl) (htt _ lk_Model_523) (fun _ h9 => h9) yg_93 d_Model_go_18 ?_
      refine lv_icmp_gt (tgt := 39) hx hb d_Model_go_21 (by decide) (fun c_4 => ?_) (fun c_4 => ?_)
      · replace hm := if_t c_4 hm
        refine lv_iconst (v := 0) hx hb d_Model_go_39 (by decide) ?_
        obtain ⟨e1i, e1j, e1a, e1b, e3⟩ := re4m hm
        obtain ⟨hP, hD⟩ := y_eq e1i e1j e1a e1b hP hD
        exact W.zret hx hb hr (by decide) (fun t9 ht hW => ⟨⟨_, (), rfl, e3.symm, by rw [ht]; exact hP, hD⟩, hS.F ht⟩) hS.2.2 d_Model_go_40
      · replace hm := if_f c_4 hm
        refine lv_aload_n hx hb d_Model_go_24 rfl (lv_at hl 0 rfl) ?_
        refine va_get (D := (dC, dI)) (ci := 12) (v := .int (i_1 92)) (C := R_Model) (T := F_Model) (N := 127) hx hb htt iw_Model hown hK hP 0 yo_12 rfl 92 (Nat.le_of_ble_eq_true rfl) (htt _ lk_Model_494) (fun _ h9 => h9) yg_92 d_Model_go_25 ?_
        refine lv_iconst (v := 1) hx hb d_Model_go_28 (by decide) ?_
        refine lv_icmp_le (tgt := 41) hx hb d_Model_go_29 (by decide) (fun c_5 => ?_) (fun c_5 => ?_)
        · replace hm := if_t c_5 hm
          exact lb_Model_go_41 d l dC dI cI cJ cB adK adV adA h v n hx hb hml hown hts hK hE hA hr hlocks _ _ _ _ _ hm _ _ _ hP hD hS (lv_sub hl [0, 1] rfl)
        · replace hm := if_f c_5 hm
          refine lv_aload_n hx hb d_Model_go_32 rfl (lv_at hl 0 rfl) ?_
          refine va_get (D := (dC, dI)) (ci := 12) (v := .int (i_1 100)) (C := R_Model) (T := F_Model) (N := 127) hx hb htt iw_Model hown hK hP 0 yo_12 rfl 100 (Nat.le_of_ble_eq_true rfl) (htt _ lk_Model_507) (fun _ h9 => h9) yg_100 d_Model_go_33 ?_
          refine lv_if_eq (tgt := 41) hx hb d_Model_go_36 (by decide) (fun c_6 => ?_) (fun c_6 => ?_)
          · replace hm := if_t c_6 hm
            exact lb_Model_go_41 d l dC dI cI cJ cB adK adV adA h v n hx hb hml hown hts hK hE hA hr hlocks _ _ _ _ _ hm _ _ _ hP hD hS (lv_sub hl [0, 1] rfl)
          · replace hm := if_f c_6 hm
            refine lv_iconst (v := 0) hx hb d_Model_go_39 (by decide) ?_
            obtain ⟨e1i, e1j, e1a, e1b, e3⟩ := re4m hm
            obtain ⟨hP, hD⟩ := y_eq e1i e1j e1a e1b hP hD
            exact W.zret hx hb hr (by decide) (fun t9 ht hW => ⟨⟨_, (), rfl, e3.symm, by rw [ht]; exact hP, hD⟩, hS.F ht⟩) hS.2.2 d_Model_go_40
