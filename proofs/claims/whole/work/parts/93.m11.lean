
def m_Model_eval_b367 (n : Nat) (G : GB) (i : Nat → Int32) (j : Nat → Int64) (a : Nat → Nat → Int32) (b : Nat → Nat → Int64) (v1 : Int32) (v9 : Int32) (v10 : Int32) (v11 : Int32) (v12 : Int64) (v14 : Int32) : Option ((Nat → Int32) × (Nat → Int64) × (Nat → Nat → Int32) × (Nat → Nat → Int64) × Int64) := m_Model_eval_b370 n G n i j a b v1 v9 v10 v11 v12 v14 (0 : Int32)
set_option maxHeartbeats 4000000 in
set_option maxRecDepth 100000 in
theorem lb_Model_eval_367 (d : Nat) (G : GB) (l : Launch) (dC : Nat → ClassId) (dI : Nat → Nat → Nat) (cI cJ cB : ClassId) (adK adV adA : Nat → Nat) (h : Nat) (v : Nat → Nat) (n : Nat) (HG : GH l dC dI cI cJ cB adK adV adA h v n G d) {p : Program} {e : Env} {s : State} {m : MethodId} {args : Array Value} {below : List Frame} {meth : Method} {c : Code} {A : Nat → Prop} (hx : p.tables.exec = Jvm.exec) (hb : c.code = b_Model_eval) (hml : c.maxLocals = 18) (hown : s.vm.findClass R_Model = some m.cls) (hts : ∀ w ∈ w_Model_eval, w.before args s = true) (hK : va_K (dC, dI) classes [(cI, .int), (cJ, .long), (cB, .byte)] s) (hE : tw_E adK adV adA A s s.heap) (hA : ∀ q : Nat, s.heap.size ≤ q → A q) (hr : meth.sig.returnType = (some .long)) (hlocks : meth.locks = false) {i2 : Nat → Int32} {j2 : Nat → Int64} {a2 : Nat → Nat → Int32} {b2 : Nat → Nat → Int64} {r2 : Int64} (i : Nat → Int32) (j : Nat → Int64) (a : Nat → Nat → Int32) (b : Nat → Nat → Int64) (v1 : Int32) (v9 : Int32) (v10 : Int32) (v11 : Int32) (v12 : Int64) (v14 : Int32) (hm : m_Model_eval_b367 n G i j a b v1 v9 v10 v11 v12 v14 = some (i2, j2, a2, b2, r2)) : ∀ (H : Heap) (locs : List Loc) (ls : Array Slot), va_P (dC, dI) classes (MW cI cJ cB h v i j a b) H → va_D A (MW cI cJ cB h v i j a b) → va_S A s.heap H locs → lv_has ls 18 [(0, .ref h), (1, .int v1), (9, .int v9), (10, .int v10), (11, .int v11), (12, .long v12), (14, .int v14)] → W p l e (gR (d + 1)) s m args below meth c H locs 0 0 (MQ below (va_Ql (xR r2) (yB dC dI cI cJ cB h v i2 j2 a2 b2 A) A) args s 0 0 A) (F0 m 367 ls []) := by
  have htt : ∀ w ∈ tw_T, w.before _ s = true := fun w h => hts w (List.mem_cons_of_mem _ h)
  intro H locs ls hP hD hS hl
  rw [m_Model_eval_b367] at hm
  refine lv_iconst (v := 0) hx hb d_Model_eval_367 (by decide) ?_
  refine lv_istore (lv' := [(15, .int 0), (0, .ref h), (1, .int v1), (9, .int v9), (10, .int v10), (11, .int v11), (12, .long v12), (14, .int v14)]) hx hb d_Model_eval_368 hl (by decide) rfl (fun ls hl => ?_)
  exact lb_Model_eval_370 d G l dC dI cI cJ cB adK adV adA h v n HG hx hb hml hown hts hK hE hA hr hlocks n _ _ _ _ _ _ _ _ _ _ _ hm _ _ _ hP hD hS (lv_sub hl [1, 2, 3, 4, 5, 6, 7, 0] rfl)
def m_Model_eval_b343 (n : Nat) (G : GB) (i : Nat → Int32) (j : Nat → Int64) (a : Nat → Nat → Int32) (b : Nat → Nat → Int64) (v1 : Int32) (v9 : Int32) (v10 : Int32) (v11 : Int32) (s0 : Int64) : Option ((Nat → Int32) × (Nat → Int64) × (Nat → Nat → Int32) × (Nat → Nat → Int64) × Int64) := ob1 (i 107 : Int32) (fun x_1 => if v11 ≤ ((0 : Int32)) then m_Model_eval_b367 n G i j a b v1 v9 v10 v11 s0 x_1 else om (m_Model_waits n i j a b) (fun i_4 j_5 a_6 b_7 r_8 => if r_8 = ((0 : Int32)) then some (i_4, j_5, a_6, b_7, 3) else m_Model_eval_b367 n G i_4 j_5 a_6 b_7 v1 v9 v10 v11 s0 x_1))
set_option maxHeartbeats 4000000 in
set_option maxRecDepth 100000 in
theorem lb_Model_eval_343 (d : Nat) (G : GB) (l : Launch) (dC : Nat → ClassId) (dI : Nat → Nat → Nat) (cI cJ cB : ClassId) (adK adV adA : Nat → Nat) (h : Nat) (v : Nat → Nat) (n : Nat) (HG : GH l dC dI cI cJ cB adK adV adA h v n G d) {p : Program} {e : Env} {s : State} {m : MethodId} {args : Array Value} {below : List Frame} {meth : Method} {c : Code} {A : Nat → Prop} (hx : p.tables.exec = Jvm.exec) (hb : c.code = b_Model_eval) (hml : c.maxLocals = 18) (hown : s.vm.findClass R_Model = some m.cls) (hts : ∀ w ∈ w_Model_eval, w.before args s = true) (hK : va_K (dC, dI) classes [(cI, .int), (cJ, .long), (cB, .byte)] s) (hE : tw_E adK adV adA A s s.heap) (hA : ∀ q : Nat, s.heap.size ≤ q → A q) (hr : meth.sig.returnType = (some .long)) (hlocks : meth.locks = false) {i2 : Nat → Int32} {j2 : Nat → Int64} {a2 : Nat → Nat → Int32} {b2 : Nat → Nat → Int64} {r2 : Int64} (i : Nat → Int32) (j : Nat → Int64) (a : Nat → Nat → Int32) (b : Nat → Nat → Int64) (v1 : Int32) (v9 : Int32) (v10 : Int32) (v11 : Int32) (s0 : Int64) (hm : m_Model_eval_b343 n G i j a b v1 v9 v10 v11 s0 = some (i2, j2, a2, b2, r2)) : ∀ (H : Heap) (locs : List Loc) (ls : Array Slot), va_P (dC, dI) classes (MW cI cJ cB h v i j a b) H → va_D A (MW cI cJ cB h v i j a b) → va_S A s.heap H locs → lv_has ls 18 [(0, .ref h), (1, .int v1), (9, .int v9), (10, .int v10), (11, .int v11)] → W p l e (gR (d + 1)) s m args below meth c H locs 0 0 (MQ below (va_Ql (xR r2) (yB dC dI cI cJ cB h v i2 j2 a2 b2 A) A) args s 0 0 A) (F0 m 343 ls [.long s0]) := by
  have htt : ∀ w ∈ tw_T, w.before _ s = true := fun w h => hts w (List.mem_cons_of_mem _ h)
  intro H locs ls hP hD hS hl
  rw [m_Model_eval_b343] at hm
  refine lv_lstore (lv' := [(12, .long s0), (0, .ref h), (1, .int v1), (9, .int v9), (10, .int v10), (11, .int v11)]) hx hb d_Model_eval_343 hl (by decide) rfl (fun ls hl => ?_)
  refine lv_aload_n hx hb d_Model_eval_345 rfl (lv_at hl 1 rfl) ?_
  refine va_get (D := (dC, dI)) (ci := 12) (v := .int (i 107)) (C := R_Model) (T := F_Model) (N := 127) hx hb htt iw_Model hown hK hP 0 yo_12 rfl 107 (Nat.le_of_ble_eq_true rfl) (htt _ lk_Model_562) (fun _ h9 => h9) yg_107 d_Model_eval_346 ?_
  refine lv_topi (fun x_1 ex_1 => ?_)
  replace hm := ob1_at ex_1 hm
  refine lv_istore (lv' := [(14, .int x_1), (12, .long s0), (0, .ref h), (1, .int v1), (9, .int v9), (10, .int v10), (11, .int v11)]) hx hb d_Model_eval_349 hl (by decide) rfl (fun ls hl => ?_)
  refine lv_iload hx hb d_Model_eval_351 (lv_at hl 6 rfl) ?_
  refine lv_if_le (tgt := 367) hx hb d_Model_eval_353 (by decide) (fun c_2 => ?_) (fun c_2 => ?_)
  · replace hm := if_t c_2 hm
    exact lb_Model_eval_367 d G l dC dI cI cJ cB adK adV adA h v n HG hx hb hml hown hts hK hE hA hr hlocks _ _ _ _ _ _ _ _ _ _ hm _ _ _ hP hD hS (lv_sub hl [2, 3, 4, 5, 6, 1, 0] rfl)
  · replace hm := if_f c_2 hm
    refine lv_aload_n hx hb d_Model_eval_356 rfl (lv_at hl 2 rfl) ?_
    obtain ⟨i_4, j_5, a_6, b_7, r_8, h_3, hm⟩ := om_some hm
    have hFc := x_free hD hS hA
    refine va_calli (va_runV (As := []) (rest := []) ⟨hx, hb, hml, hown, hts⟩ (x_Model_waits l dC dI cI cJ cB adK adV adA h v H.size n h_3) (cwV 0 hts (tw_GV tw_cons cw_Model_waits lk_Model_608 in_Model_waits sel_Model_waits ini_Model) rfl rfl rfl ⟨rfl, hd_Model_waits⟩ (gR_fit (d + 1) (Nat.le_of_ble_eq_true rfl) (Nat.le_of_ble_eq_true rfl))) (ypV hK hP hD hS hE hFc yo_12 rfl) rfl rfl hl.1 rfl (lv_room (Nat.le_of_ble_eq_true rfl)) d_Model_eval_357 ⟨Nat.le_of_ble_eq_true rfl, Nat.le_of_ble_eq_true rfl⟩) hS (fun q _ h => hFc q h) hFc (fun r9 u9 t9 H locs ht hvm e9 hB hz1 hk1 hS => ?_)
    have e9 : r_8 = r9 := e9
    subst e9
    obtain ⟨hP, hD⟩ := y_aft hB ht hFc
    clear hFc hk1 hz1 hvm hB ht
    refine lv_if_ne (tgt := 367) hx hb d_Model_eval_360 (by decide) (fun c_9 => ?_) (fun c_9 => ?_)
    · replace hm := if_f c_9 hm
      exact lb_Model_eval_367 d G l dC dI cI cJ cB adK adV adA h v n HG hx hb hml hown hts hK hE hA hr hlocks _ _ _ _ _ _ _ _ _ _ hm _ _ _ hP hD hS (lv_sub hl [2, 3, 4, 5, 6, 1, 0] rfl)
    · replace hm := if_t c_9 hm
      refine lv_ldc2 (v := 3) hx hb hown (htt _ lk_Model_7) d_Model_eval_363 ?_
      obtain ⟨e1i, e1j, e1a, e1b, e3⟩ := re4m hm
      obtain ⟨hP, hD⟩ := y_eq e1i e1j e1a e1b hP hD
      exact W.lret hx hb hr (fun t9 ht hW => ⟨⟨_, (), rfl, e3.symm, by rw [ht]; exact hP, hD⟩, hS.F ht⟩) hS.2.2 d_Model_eval_366
def m_Model_eval_b322 (n : Nat) (G : GB) (i : Nat → Int32) (j : Nat → Int64) (a : Nat → Nat → Int32) (b : Nat → Nat → Int64) (v1 : Int32) (v9 : Int32) (v10 : Int32) (s0 : Int32) : Option ((Nat → Int32) × (Nat → Int64) × (Nat → Nat → Int32) × (Nat → Nat → Int64) × Int64) := if v9 = ((-1 : Int32)) then ck v10 40 (m_Model_eval_b343 n G i j a b v1 v9 v10 s0 (b 32 v10.toNatClampNeg)) else m_Model_eval_b343 n G i j a b v1 v9 v10 s0 (3 : Int64)
set_option maxHeartbeats 4000000 in
set_option maxRecDepth 100000 in
theorem lb_Model_eval_322 (d : Nat) (G : GB) (l : Launch) (dC : Nat → ClassId) (dI : Nat → Nat → Nat) (cI cJ cB : ClassId) (adK adV adA : Nat → Nat) (h : Nat) (v : Nat → Nat) (n : Nat) (HG : GH l dC dI cI cJ cB adK adV adA h v n G d) {p : Program} {e : Env} {s : State} {m : MethodId} {args : Array Value} {below : List Frame} {meth : Method} {c : Code} {A : Nat → Prop} (hx : p.tables.exec = Jvm.exec) (hb : c.code = b_Model_eval) (hml : c.maxLocals = 18) (hown : s.vm.findClass R_Model = some m.cls) (hts : ∀ w ∈ w_Model_eval, w.before args s = true) (hK : va_K (dC, dI) classes [(cI, .int), (cJ, .long), (cB, .byte)] s) (hE : tw_E adK adV adA A s s.heap) (hA : ∀ q : Nat, s.heap.size ≤ q → A q) (hr : meth.sig.returnType = (some .long)) (hlocks : meth.locks = false) {i2 : Nat → Int32} {j2 : Nat → Int64} {a2 : Nat → Nat → Int32} {b2 : Nat → Nat → Int64} {r2 : Int64} (i : Nat → Int32) (j : Nat → Int64) (a : Nat → Nat → Int32) (b : Nat → Nat → Int64) (v1 : Int32) (v9 : Int32) (v10 : Int32) (s0 : Int32) (hm : m_Model_eval_b322 n G i j a b v1 v9 v10 s0 = some (i2, j2, a2, b2, r2)) : ∀ (H : Heap) (locs : List Loc) (ls : Array Slot), va_P (dC, dI) classes (MW cI cJ cB h v i j a b) H → va_D A (MW cI cJ cB h v i j a b) → va_S A s.heap H locs → lv_has ls 18 [(0, .ref h), (1, .int v1), (9, .int v9), (10, .int v10)] → W p l e (gR (d + 1)) s m args below meth c H locs 0 0 (MQ below (va_Ql (xR r2) (yB dC dI cI cJ cB h v i2 j2 a2 b2 A) A) args s 0 0 A) (F0 m 322 ls [.int s0]) := by
  have htt : ∀ w ∈ tw_T, w.before _ s = true := fun w h => hts w (List.mem_cons_of_mem _ h)
  intro H locs ls hP hD hS hl
  rw [m_Model_eval_b322] at hm
  refine lv_istore (lv' := [(11, .int s0), (0, .ref h), (1, .int v1), (9, .int v9), (10, .int v10)]) hx hb d_Model_eval_322 hl (by decide) rfl (fun ls hl => ?_)
  refine lv_iload hx hb d_Model_eval_324 (lv_at hl 3 rfl) ?_
  refine lv_iconst (v := -1) hx hb d_Model_eval_326 (by decide) ?_
  refine lv_icmp_ne (tgt := 340) hx hb d_Model_eval_327 (by decide) (fun c_1 => ?_) (fun c_1 => ?_)
  · replace hm := if_f c_1 hm
    refine lv_ldc2 (v := 3) hx hb hown (htt _ lk_Model_7) d_Model_eval_340 ?_
    exact lb_Model_eval_343 d G l dC dI cI cJ cB adK adV adA h v n HG hx hb hml hown hts hK hE hA hr hlocks _ _ _ _ _ _ _ _ _ hm _ _ _ hP hD hS (lv_sub hl [1, 2, 3, 4, 0] rfl)
  · replace hm := if_t c_1 hm
    refine lv_aload_n hx hb d_Model_eval_330 rfl (lv_at hl 1 rfl) ?_
    refine va_get (D := (dC, dI)) (ci := 12) (v := .ref ((v 32))) (C := R_Model) (T := F_Model) (N := 127) hx hb htt iw_Model hown hK hP 0 yo_12 rfl 32 (Nat.le_of_ble_eq_true rfl) (htt _ lk_Model_192) (fun _ h9 => h9) yg_32 d_Model_eval_331 ?_
    refine lv_iload hx hb d_Model_eval_334 (lv_at hl 4 rfl) ?_
    obtain ⟨h_2, hm⟩ := ck_some hm
    refine va_lald hx hb hK hP 26 1 ya_32 rfl h_2 d_Model_eval_336 ?_
    refine lv_goto (tgt := 343) hx hb d_Model_eval_337 (by decide) ?_
    exact lb_Model_eval_343 d G l dC dI cI cJ cB adK adV adA h v n HG hx hb hml hown hts hK hE hA hr hlocks _ _ _ _ _ _ _ _ _ hm _ _ _ hP hD hS (lv_sub hl [1, 2, 3, 4, 0] rfl)
def m_Model_eval_b301 (n : Nat) (G : GB) (i : Nat → Int32) (j : Nat → Int64) (a : Nat → Nat → Int32) (b : Nat → Nat → Int64) (v1 : Int32) (v9 : Int32) (v10 : Int32) : Option ((Nat → Int32) × (Nat → Int64) × (Nat → Nat → Int32) × (Nat → Nat → Int64) × Int64) := if v9 = ((-1 : Int32)) then ck v10 40 (m_Model_eval_b322 n G i j a b v1 v9 v10 (a 30 v10.toNatClampNeg)) else ob0 (m_Model_arity n i j a b v9) (fun r_3 => m_Model_eval_b322 n G i j a b v1 v9 v10 r_3)
set_option maxHeartbeats 4000000 in
set_option maxRecDepth 100000 in
theorem lb_Model_eval_301 (d : Nat) (G : GB) (l : Launch) (dC : Nat → ClassId) (dI : Nat → Nat → Nat) (cI cJ cB : ClassId) (adK adV adA : Nat → Nat) (h : Nat) (v : Nat → Nat) (n : Nat) (HG : GH l dC dI cI cJ cB adK adV adA h v n G d) {p : Program} {e : Env} {s : State} {m : MethodId} {args : Array Value} {below : List Frame} {meth : Method} {c : Code} {A : Nat → Prop} (hx : p.tables.exec = Jvm.exec) (hb : c.code = b_Model_eval) (hml : c.maxLocals = 18) (hown : s.vm.findClass R_Model = some m.cls) (hts : ∀ w ∈ w_Model_eval, w.before args s = true) (hK : va_K (dC, dI) classes [(cI, .int), (cJ, .long), (cB, .byte)] s) (hE : tw_E adK adV adA A s s.heap) (hA : ∀ q : Nat, s.heap.size ≤ q → A q) (hr : meth.sig.returnType = (some .long)) (hlocks : meth.locks = false) {i2 : Nat → Int32} {j2 : Nat → Int64} {a2 : Nat → Nat → Int32} {b2 : Nat → Nat → Int64} {r2 : Int64} (i : Nat → Int32) (j : Nat → Int64) (a : Nat → Nat → Int32) (b : Nat → Nat → Int64) (v1 : Int32) (v9 : Int32) (v10 : Int32) (hm : m_Model_eval_b301 n G i j a b v1 v9 v10 = some (i2, j2, a2, b2, r2)) : ∀ (H : Heap) (locs : List Loc) (ls : Array Slot), va_P (dC, dI) classes (MW cI cJ cB h v i j a b) H → va_D A (MW cI cJ cB h v i j a b) → va_S A s.heap H locs → lv_has ls 18 [(0, .ref h), (1, .int v1), (9, .int v9), (10, .int v10)] → W p l e (gR (d + 1)) s m args below meth c H locs 0 0 (MQ below (va_Ql (xR r2) (yB dC dI cI cJ cB h v i2 j2 a2 b2 A) A) args s 0 0 A) (F0 m 301 ls []) := by
  have htt : ∀ w ∈ tw_T, w.before _ s = true := fun w h => hts w (List.mem_cons_of_mem _ h)
  intro H locs ls hP hD hS hl
  rw [m_Model_eval_b301] at hm
  refine lv_iload hx hb d_Model_eval_301 (lv_at hl 2 rfl) ?_
  refine lv_iconst (v := -1) hx hb d_Model_eval_303 (by decide) ?_
  refine lv_icmp_ne (tgt := 317) hx hb d_Model_eval_304 (by decide) (fun c_1 => ?_) (fun c_1 => ?_)
  · replace hm := if_f c_1 hm
    refine lv_iload hx hb d_Model_eval_317 (lv_at hl 2 rfl) ?_
    obtain ⟨r_3, h_2, hm⟩ := ob0_some hm
    have hFc := x_free0 hS hA
    refine va_calli (va_runS (As := [.int v9]) (rest := []) ⟨hx, hb, hml, hown, hts⟩ (x_Model_arity l dC dI cI cJ cB adK adV adA h v H.size n h_2) (va_cwS 1 hts (tw_GS tw_cons cw_Model_arity lk_Model_617 st_Model_arity ini_Model) rfl rfl rfl hd_Model_arity (gR_fit (d + 1) (Nat.le_of_ble_eq_true rfl) (Nat.le_of_ble_eq_true rfl))) (ypSr hK hP hS hE hFc) rfl rfl hl.1 rfl (lv_room (Nat.le_of_ble_eq_true rfl)) d_Model_eval_319 ⟨Nat.le_of_ble_eq_true rfl, Nat.le_of_ble_eq_true rfl⟩) hS (fun q _ h => hFc q h) hFc (fun r9 u9 t9 H locs ht hvm e9 hB hz1 hk1 hS => ?_)
    have e9 : r_3 = r9 := e9
    subst e9
    replace hP := x_keep hP hk1
    clear hFc hk1 hz1 hvm hB ht
    exact lb_Model_eval_322 d G l dC dI cI cJ cB adK adV adA h v n HG hx hb hml hown hts hK hE hA hr hlocks _ _ _ _ _ _ _ _ hm _ _ _ hP hD hS (lv_sub hl [0, 1, 2, 3] rfl)
  · replace hm := if_t c_1 hm
    refine lv_aload_n hx hb d_Model_eval_307 rfl (lv_at hl 0 rfl) ?_
    refine va_get (D := (dC, dI)) (ci := 12) (v := .ref ((v 30))) (C := R_Model) (T := F_Model) (N := 127) hx hb htt iw_Model hown hK hP 0 yo_12 rfl 30 (Nat.le_of_ble_eq_true rfl) (htt _ lk_Model_186) (fun _ h9 => h9) yg_30 d_Model_eval_308 ?_
    refine lv_iload hx hb d_Model_eval_311 (lv_at hl 3 rfl) ?_
    obtain ⟨h_4, hm⟩ := ck_some hm
    refine va_iald hx hb hK hP 24 0 ya_30 rfl h_4 d_Model_eval_313 ?_
    refine lv_goto (tgt := 322) hx hb d_Model_eval_314 (by decide) ?_
    exact lb_Model_eval_322 d G l dC dI cI cJ cB adK adV adA h v n HG hx hb hml hown hts hK hE hA hr hlocks _ _ _ _ _ _ _ _ hm _ _ _ hP hD hS (lv_sub hl [0, 1, 2, 3] rfl)
def m_Model_eval_b281 (n : Nat) (G : GB) (i : Nat → Int32) (j : Nat → Int64) (a : Nat → Nat → Int32) (b : Nat → Nat → Int64) (v1 : Int32) (v9 : Int32) (s0 : Int32) : Option ((Nat → Int32) × (Nat → Int64) × (Nat → Nat → Int32) × (Nat → Nat → Int64) × Int64) := if v9 = ((-1 : Int32)) then if s0 = ((-1 : Int32)) then om (m_Model_fails n i j a b (1 : Int32)) (fun i_4 j_5 a_6 b_7 r_8 => some (i_4, j_5, a_6, b_7, r_8)) else m_Model_eval_b301 n G i j a b v1 v9 s0 else m_Model_eval_b301 n G i j a b v1 v9 s0
set_option maxHeartbeats 4000000 in
set_option maxRecDepth 100000 in
theorem lb_Model_eval_281 (d : Nat) (G : GB) (l : Launch) (dC : Nat → ClassId) (dI : Nat → Nat → Nat) (cI cJ cB : ClassId) (adK adV adA : Nat → Nat) (h : Nat) (v : Nat → Nat) (n : Nat) (HG : GH l dC dI cI cJ cB adK adV adA h v n G d) {p : Program} {e : Env} {s : State} {m : MethodId} {args : Array Value} {below : List Frame} {meth : Method} {c : Code} {A : Nat → Prop} (hx : p.tables.exec = Jvm.exec) (hb : c.code = b_Model_eval) (hml : c.maxLocals = 18) (hown : s.vm.findClass R_Model = some m.cls) (hts : ∀ w ∈ w_Model_eval, w.before args s = true) (hK : va_K (dC, dI) classes [(cI, .int), (cJ, .long), (cB, .byte)] s) (hE : tw_E adK adV adA A s s.heap) (hA : ∀ q : Nat, s.heap.size ≤ q → A q) (hr : meth.sig.returnType = (some .long)) (hlocks : meth.locks = false) {i2 : Nat → Int32} {j2 : Nat → Int64} {a2 : Nat → Nat → Int32} {b2 : Nat → Nat → Int64} {r2 : Int64} (i : Nat → Int32) (j : Nat → Int64) (a : Nat → Nat → Int32) (b : Nat → Nat → Int64) (v1 : Int32) (v9 : Int32) (s0 : Int32) (hm : m_Model_eval_b281 n G i j a b v1 v9 s0 = some (i2, j2, a2, b2, r2)) : ∀ (H : Heap) (locs : List Loc) (ls : Array Slot), va_P (dC, dI) classes (MW cI cJ cB h v i j a b) H → va_D A (MW cI cJ cB h v i j a b) → va_S A s.heap H locs → lv_has ls 18 [(0, .ref h), (1, .int v1), (9, .int v9)] → W p l e (gR (d + 1)) s m args below meth c H locs 0 0 (MQ below (va_Ql (xR r2) (yB dC dI cI cJ cB h v i2 j2 a2 b2 A) A) args s 0 0 A) (F0 m 281 ls [.int s0]) := by
  have htt : ∀ w ∈ tw_T, w.before _ s = true := fun w h => hts w (List.mem_cons_of_mem _ h)
  intro H locs ls hP hD hS hl
  rw [m_Model_eval_b281] at hm
  refine lv_istore (lv' := [(10, .int s0), (0, .ref h), (1, .int v1), (9, .int v9)]) hx hb d_Model_eval_281 hl (by decide) rfl (fun ls hl => ?_)
  refine lv_iload hx hb d_Model_eval_283 (lv_at hl 3 rfl) ?_
  refine lv_iconst (v := -1) hx hb d_Model_eval_285 (by decide) ?_
  refine lv_icmp_ne (tgt := 301) hx hb d_Model_eval_286 (by decide) (fun c_1 => ?_) (fun c_1 => ?_)
  · replace hm := if_f c_1 hm
    exact lb_Model_eval_301 d G l dC dI cI cJ cB adK adV adA h v n HG hx hb hml hown hts hK hE hA hr hlocks _ _ _ _ _ _ _ hm _ _ _ hP hD hS (lv_sub hl [1, 2, 3, 0] rfl)
  · replace hm := if_t c_1 hm
    refine lv_iload hx hb d_Model_eval_289 (lv_at hl 0 rfl) ?_
    refine lv_iconst (v := -1) hx hb d_Model_eval_291 (by decide) ?_
    refine lv_icmp_ne (tgt := 301) hx hb d_Model_eval_292 (by decide) (fun c_2 => ?_) (fun c_2 => ?_)
    · replace hm := if_f c_2 hm
      exact lb_Model_eval_301 d G l dC dI cI cJ cB adK adV adA h v n HG hx hb hml hown hts hK hE hA hr hlocks _ _ _ _ _ _ _ hm _ _ _ hP hD hS (lv_sub hl [1, 2, 3, 0] rfl)
    · replace hm := if_t c_2 hm
      refine lv_aload_n hx hb d_Model_eval_295 rfl (lv_at hl 1 rfl) ?_
      refine lv_iconst (v := 1) hx hb d_Model_eval_296 (by decide) ?_
      obtain ⟨i_4, j_5, a_6, b_7, r_8, h_3, hm⟩ := om_some hm
      have hFc := x_free hD hS hA
      refine va_calll (va_runV (As := [.int 1]) (rest := []) ⟨hx, hb, hml, hown, hts⟩ (x_Model_fails l dC dI cI cJ cB adK adV adA h v H.size n h_3) (cwV 1 hts (tw_GV tw_cons cw_Model_fails lk_Model_596 in_Model_fails sel_Model_fails ini_Model) rfl rfl rfl ⟨rfl, hd_Model_fails⟩ (gR_fit (d + 1) (Nat.le_of_ble_eq_true rfl) (Nat.le_of_ble_eq_true rfl))) (ypV hK hP hD hS hE hFc yo_12 rfl) rfl rfl hl.1 rfl (lv_room (Nat.le_of_ble_eq_true rfl)) d_Model_eval_297 ⟨Nat.le_of_ble_eq_true rfl, Nat.le_of_ble_eq_true rfl⟩) hS (fun q _ h => hFc q h) hFc (fun r9 u9 t9 H locs ht hvm e9 hB hz1 hk1 hS => ?_)
      have e9 : r_8 = r9 := e9
      subst e9
      obtain ⟨hP, hD⟩ := y_aft hB ht hFc
      clear hFc hk1 hz1 hvm hB ht
      obtain ⟨e1i, e1j, e1a, e1b, e3⟩ := re4m hm
      obtain ⟨hP, hD⟩ := y_eq e1i e1j e1a e1b hP hD
      exact W.lret hx hb hr (fun t9 ht hW => ⟨⟨_, (), rfl, e3.symm, by rw [ht]; exact hP, hD⟩, hS.F ht⟩) hS.2.2 d_Model_eval_300
def m_Model_eval_b257 (n : Nat) (G : GB) (i : Nat → Int32) (j : Nat → Int64) (a : Nat → Nat → Int32) (b : Nat → Nat → Int64) (v1 : Int32) (v6 : Int32) : Option ((Nat → Int32) × (Nat → Int64) × (Nat → Nat → Int32) × (Nat → Nat → Int64) × Int64) := om (m_Model_primitive n i j a b v6) (fun i_2 j_3 a_4 b_5 r_6 => if r_6 = ((-1 : Int32)) then ob0 (m_Model_procedureOf n i_2 j_3 a_4 b_5 v6) (fun r_9 => m_Model_eval_b281 n G i_2 j_3 a_4 b_5 v1 r_6 r_9) else m_Model_eval_b281 n G i_2 j_3 a_4 b_5 v1 r_6 (-1 : Int32))
set_option maxHeartbeats 4000000 in
set_option maxRecDepth 100000 in
theorem lb_Model_eval_257 (d : Nat) (G : GB) (l : Launch) (dC : Nat → ClassId) (dI : Nat → Nat → Nat) (cI cJ cB : ClassId) (adK adV adA : Nat → Nat) (h : Nat) (v : Nat → Nat) (n : Nat) (HG : GH l dC dI cI cJ cB adK adV adA h v n G d) {p : Program} {e : Env} {s : State} {m : MethodId} {args : Array Value} {below : List Frame} {meth : Method} {c : Code} {A : Nat → Prop} (hx : p.tables.exec = Jvm.exec) (hb : c.code = b_Model_eval) (hml : c.maxLocals = 18) (hown : s.vm.findClass R_Model = some m.cls) (hts : ∀ w ∈ w_Model_eval, w.before args s = true) (hK : va_K (dC, dI) classes [(cI, .int), (cJ, .long), (cB, .byte)] s) (hE : tw_E adK adV adA A s s.heap) (hA : ∀ q : Nat, s.heap.size ≤ q → A q) (hr : meth.sig.returnType = (some .long)) (hlocks : meth.locks = false) {i2 : Nat → Int32} {j2 : Nat → Int64} {a2 : Nat → Nat → Int32} {b2 : Nat → Nat → Int64} {r2 : Int64} (i : Nat → Int32) (j : Nat → Int64) (a : Nat → Nat → Int32) (b : Nat → Nat → Int64) (v1 : Int32) (v6 : Int32) (hm : m_Model_eval_b257 n G i j a b v1 v6 = some (i2, j2, a2, b2, r2)) : ∀ (H : Heap) (locs : List Loc) (ls : Array Slot), va_P (dC, dI) classes (MW cI cJ cB h v i j a b) H → va_D A (MW cI cJ cB h v i j a b) → va_S A s.heap H locs → lv_has ls 18 [(0, .ref h), (1, .int v1), (6, .int v6)] → W p l e (gR (d + 1)) s m args below meth c H locs 0 0 (MQ below (va_Ql (xR r2) (yB dC dI cI cJ cB h v i2 j2 a2 b2 A) A) args s 0 0 A) (F0 m 257 ls []) := by
  have htt : ∀ w ∈ tw_T, w.before _ s = true := fun w h => hts w (List.mem_cons_of_mem _ h)
  intro H locs ls hP hD hS hl
  rw [m_Model_eval_b257] at hm
  refine lv_aload_n hx hb d_Model_eval_257 rfl (lv_at hl 0 rfl) ?_
  refine lv_iload hx hb d_Model_eval_258 (lv_at hl 2 rfl) ?_
  obtain ⟨i_2, j_3, a_4, b_5, r_6, h_1, hm⟩ := om_some hm
  have hFc := x_free hD hS hA
  refine va_calli (va_runV (As := [.int v6]) (rest := []) ⟨hx, hb, hml, hown, hts⟩ (x_Model_primitive l dC dI cI cJ cB adK adV adA h v H.size n h_1) (cwV 1 hts (tw_GV tw_cons cw_Model_primitive lk_Model_479 in_Model_primitive sel_Model_primitive ini_Model) rfl rfl rfl ⟨rfl, hd_Model_primitive⟩ (gR_fit (d + 1) (Nat.le_of_ble_eq_true rfl) (Nat.le_of_ble_eq_true rfl))) (ypV hK hP hD hS hE hFc yo_12 rfl) rfl rfl hl.1 rfl (lv_room (Nat.le_of_ble_eq_true rfl)) d_Model_eval_260 ⟨Nat.le_of_ble_eq_true rfl, Nat.le_of_ble_eq_true rfl⟩) hS (fun q _ h => hFc q h) hFc (fun r9 u9 t9 H locs ht hvm e9 hB hz1 hk1 hS => ?_)
  have e9 : r_6 = r9 := e9
  subst e9
  obtain ⟨hP, hD⟩ := y_aft hB ht hFc
  clear hFc hk1 hz1 hvm hB ht
  refine lv_istore (lv' := [(9, .int r_6), (0, .ref h), (1, .int v1), (6, .int v6)]) hx hb d_Model_eval_263 hl (by decide) rfl (fun ls hl => ?_)
  refine lv_iload hx hb d_Model_eval_265 (lv_at hl 0 rfl) ?_
  refine lv_iconst (v := -1) hx hb d_Model_eval_267 (by decide) ?_
  refine lv_icmp_ne (tgt := 280) hx hb d_Model_eval_268 (by decide) (fun c_7 => ?_) (fun c_7 => ?_)
  · replace hm := if_f c_7 hm
    refine lv_iconst (v := -1) hx hb d_Model_eval_280 (by decide) ?_
    exact lb_Model_eval_281 d G l dC dI cI cJ cB adK adV adA h v n HG hx hb hml hown hts hK hE hA hr hlocks _ _ _ _ _ _ _ hm _ _ _ hP hD hS (lv_sub hl [1, 2, 0] rfl)
  · replace hm := if_t c_7 hm
    refine lv_aload_n hx hb d_Model_eval_271 rfl (lv_at hl 1 rfl) ?_
    refine lv_iload hx hb d_Model_eval_272 (lv_at hl 3 rfl) ?_
    obtain ⟨r_9, h_8, hm⟩ := ob0_some hm
    have hFc := x_free0 hS hA
    refine va_calli (va_runV (As := [.int v6]) (rest := []) ⟨hx, hb, hml, hown, hts⟩ (x_Model_procedureOf l dC dI cI cJ cB adK adV adA h v H.size n h_8) (cwV 1 hts (tw_GV tw_cons cw_Model_procedureOf lk_Model_488 in_Model_procedureOf sel_Model_procedureOf ini_Model) rfl rfl rfl ⟨rfl, hd_Model_procedureOf⟩ (gR_fit (d + 1) (Nat.le_of_ble_eq_true rfl) (Nat.le_of_ble_eq_true rfl))) (ypVr hK hP hS hE hFc yo_12 rfl) rfl rfl hl.1 rfl (lv_room (Nat.le_of_ble_eq_true rfl)) d_Model_eval_274 ⟨Nat.le_of_ble_eq_true rfl, Nat.le_of_ble_eq_true rfl⟩) hS (fun q _ h => hFc q h) hFc (fun r9 u9 t9 H locs ht hvm e9 hB hz1 hk1 hS => ?_)
    have e9 : r_9 = r9 := e9
    subst e9
    replace hP := x_keep hP hk1
    clear hFc hk1 hz1 hvm hB ht
    refine lv_goto (tgt := 281) hx hb d_Model_eval_277 (by decide) ?_
    exact lb_Model_eval_281 d G l dC dI cI cJ cB adK adV adA h v n HG hx hb hml hown hts hK hE hA hr hlocks _ _ _ _ _ _ _ hm _ _ _ hP hD hS (lv_sub hl [1, 2, 0] rfl)
def m_Model_eval_b238 (n : Nat) (G : GB) (i : Nat → Int32) (j : Nat → Int64) (a : Nat → Nat → Int32) (b : Nat → Nat → Int64) (v1 : Int32) (v6 : Int32) (v7 : Int32) (v8 : Int32) : Option ((Nat → Int32) × (Nat → Int64) × (Nat → Nat → Int32) × (Nat → Nat → Int64) × Int64) := if v8 = ((0 : Int32)) then m_Model_eval_b257 n G i j a b v1 v6 else ob0 (m_Model_isSingle n v7) (fun r_3 => if r_3 = ((0 : Int32)) then m_Model_eval_b257 n G i j a b v1 v6 else om (m_Model_fails n i j a b (4 : Int32)) (fun i_6 j_7 a_8 b_9 r_10 => some (i_6, j_7, a_8, b_9, r_10)))
set_option maxHeartbeats 4000000 in
set_option maxRecDepth 100000 in
theorem lb_Model_eval_238 (d : Nat) (G : GB) (l : Launch) (dC : Nat → ClassId) (dI : Nat → Nat → Nat) (cI cJ cB : ClassId) (adK adV adA : Nat → Nat) (h : Nat) (v : Nat → Nat) (n : Nat) (HG : GH l dC dI cI cJ cB adK adV adA h v n G d) {p : Program} {e : Env} {s : State} {m : MethodId} {args : Array Value} {below : List Frame} {meth : Method} {c : Code} {A : Nat → Prop} (hx : p.tables.exec = Jvm.exec) (hb : c.code = b_Model_eval) (hml : c.maxLocals = 18) (hown : s.vm.findClass R_Model = some m.cls) (hts : ∀ w ∈ w_Model_eval, w.before args s = true) (hK : va_K (dC, dI) classes [(cI, .int), (cJ, .long), (cB, .byte)] s) (hE : tw_E adK adV adA A s s.heap) (hA : ∀ q : Nat, s.heap.size ≤ q → A q) (hr : meth.sig.returnType = (some .long)) (hlocks : meth.locks = false) {i2 : Nat → Int32} {j2 : Nat → Int64} {a2 : Nat → Nat → Int32} {b2 : Nat → Nat → Int64} {r2 : Int64} (i : Nat → Int32) (j : Nat → Int64) (a : Nat → Nat → Int32) (b : Nat → Nat → Int64) (v1 : Int32) (v6 : Int32) (v7 : Int32) (v8 : Int32) (hm : m_Model_eval_b238 n G i j a b v1 v6 v7 v8 = some (i2, j2, a2, b2, r2)) : ∀ (H : Heap) (locs : List Loc) (ls : Array Slot), va_P (dC, dI) classes (MW cI cJ cB h v i j a b) H → va_D A (MW cI cJ cB h v i j a b) → va_S A s.heap H locs → lv_has ls 18 [(0, .ref h), (1, .int v1), (6, .int v6), (7, .int v7), (8, .int v8)] → W p l e (gR (d + 1)) s m args below meth c H locs 0 0 (MQ below (va_Ql (xR r2) (yB dC dI cI cJ cB h v i2 j2 a2 b2 A) A) args s 0 0 A) (F0 m 238 ls []) := by
  have htt : ∀ w ∈ tw_T, w.before _ s = true := fun w h => hts w (List.mem_cons_of_mem _ h)
  intro H locs ls hP hD hS hl
  rw [m_Model_eval_b238] at hm
  refine lv_iload hx hb d_Model_eval_238 (lv_at hl 4 rfl) ?_
  refine lv_if_eq (tgt := 257) hx hb d_Model_eval_240 (by decide) (fun c_1 => ?_) (fun c_1 => ?_)
  · replace hm := if_t c_1 hm
    exact lb_Model_eval_257 d G l dC dI cI cJ cB adK adV adA h v n HG hx hb hml hown hts hK hE hA hr hlocks _ _ _ _ _ _ hm _ _ _ hP hD hS (lv_sub hl [0, 1, 2] rfl)
  · replace hm := if_f c_1 hm
    refine lv_iload hx hb d_Model_eval_243 (lv_at hl 3 rfl) ?_
    obtain ⟨r_3, h_2, hm⟩ := ob0_some hm
    have hFc := x_free0 hS hA
    refine va_calli (va_runS (As := [.int v7]) (rest := []) ⟨hx, hb, hml, hown, hts⟩ (x_Model_isSingle l H.size n h_2) (va_cwS 1 hts (tw_GS tw_cons cw_Model_isSingle lk_Model_441 st_Model_isSingle ini_Model) rfl rfl rfl hd_Model_isSingle (gR_fit (d + 1) (Nat.le_of_ble_eq_true rfl) (Nat.le_of_ble_eq_true rfl))) xpS0 rfl rfl hl.1 rfl (lv_room (Nat.le_of_ble_eq_true rfl)) d_Model_eval_245 ⟨Nat.le_of_ble_eq_true rfl, Nat.le_of_ble_eq_true rfl⟩) hS (fun q _ h => hFc q h) hFc (fun r9 u9 t9 H locs ht hvm e9 hB hz1 hk1 hS => ?_)
    have e9 : r_3 = r9 := e9
    subst e9
    replace hP := x_keep hP hk1
    clear hFc hk1 hz1 hvm hB ht
    refine lv_if_eq (tgt := 257) hx hb d_Model_eval_248 (by decide) (fun c_4 => ?_) (fun c_4 => ?_)
    · replace hm := if_t c_4 hm
      exact lb_Model_eval_257 d G l dC dI cI cJ cB adK adV adA h v n HG hx hb hml hown hts hK hE hA hr hlocks _ _ _ _ _ _ hm _ _ _ hP hD hS (lv_sub hl [0, 1, 2] rfl)
    · replace hm := if_f c_4 hm
      refine lv_aload_n hx hb d_Model_eval_251 rfl (lv_at hl 0 rfl) ?_
      refine lv_iconst (v := 4) hx hb d_Model_eval_252 (by decide) ?_
      obtain ⟨i_6, j_7, a_8, b_9, r_10, h_5, hm⟩ := om_some hm
      have hFc := x_free hD hS hA
      refine va_calll (va_runV (As := [.int 4]) (rest := []) ⟨hx, hb, hml, hown, hts⟩ (x_Model_fails l dC dI cI cJ cB adK adV adA h v H.size n h_5) (cwV 1 hts (tw_GV tw_cons cw_Model_fails lk_Model_596 in_Model_fails sel_Model_fails ini_Model) rfl rfl rfl ⟨rfl, hd_Model_fails⟩ (gR_fit (d + 1) (Nat.le_of_ble_eq_true rfl) (Nat.le_of_ble_eq_true rfl))) (ypV hK hP hD hS hE hFc yo_12 rfl) rfl rfl hl.1 rfl (lv_room (Nat.le_of_ble_eq_true rfl)) d_Model_eval_253 ⟨Nat.le_of_ble_eq_true rfl, Nat.le_of_ble_eq_true rfl⟩) hS (fun q _ h => hFc q h) hFc (fun r9 u9 t9 H locs ht hvm e9 hB hz1 hk1 hS => ?_)
      have e9 : r_10 = r9 := e9
      subst e9
      obtain ⟨hP, hD⟩ := y_aft hB ht hFc
      clear hFc hk1 hz1 hvm hB ht
      obtain ⟨e1i, e1j, e1a, e1b, e3⟩ := re4m hm
      obtain ⟨hP, hD⟩ := y_eq e1i e1j e1a e1b hP hD
      exact W.lret hx hb hr (fun t9 ht hW => ⟨⟨_, (), rfl, e3.symm, by rw [ht]; exact hP, hD⟩, hS.F ht⟩) hS.2.2 d_Model_eval_256
def m_Model_eval_b233 (n : Nat) (G : GB) (i : Nat → Int32) (j : Nat → Int64) (a : Nat → Nat → Int32) (b : Nat → Nat → Int64) (v1 : Int32) (s0 : Int64) : Option ((Nat → Int32) × (Nat → Int64) × (Nat → Nat → Int32) × (Nat → Nat → Int64) × Int64) := m_Model_eval_b569 n G i j a b v1 s0
set_option maxHeartbeats 4000000 in
set_option maxRecDepth 100000 in
theorem lb_Model_eval_233 (d : Nat) (G : GB) (l : Launch) (dC : Nat → ClassId) (dI : Nat → Nat → Nat) (cI cJ cB : ClassId) (adK adV adA : Nat → Nat) (h : Nat) (v : Nat → Nat) (n : Nat) (HG : GH l dC dI cI cJ cB adK adV adA h v n G d) {p : Program} {e : Env} {s : State} {m : MethodId} {args : Array Value} {below : List Frame} {meth : Method} {c : Code} {A : Nat → Prop} (hx : p.tables.exec = Jvm.exec) (hb : c.code = b_Model_eval) (hml : c.maxLocals = 18) (hown : s.vm.findClass R_Model = some m.cls) (hts : ∀ w ∈ w_Model_eval, w.before args s = true) (hK : va_K (dC, dI) classes [(cI, .int), (cJ, .long), (cB, .byte)] s) (hE : tw_E adK adV adA A s s.heap) (hA : ∀ q : Nat, s.heap.size ≤ q → A q) (hr : meth.sig.returnType = (some .long)) (hlocks : meth.locks = false) {i2 : Nat → Int32} {j2 : Nat → Int64} {a2 : Nat → Nat → Int32} {b2 : Nat → Nat → Int64} {r2 : Int64} (i : Nat → Int32) (j : Nat → Int64) (a : Nat → Nat → Int32) (b : Nat → Nat → Int64) (v1 : Int32) (s0 : Int64) (hm : m_Model_eval_b233 n G i j a b v1 s0 = some (i2, j2, a2, b2, r2)) : ∀ (H : Heap) (locs : List Loc) (ls : Array Slot), va_P (dC, dI) classes (MW cI cJ cB h v i j a b) H → va_D A (MW cI cJ cB h v i j a b) → va_S A s.heap H locs → lv_has ls 18 [(0, .ref h), (1, .int v1)] → W p l e (gR (d + 1)) s m args below meth c H locs 0 0 (MQ below (va_Ql (xR r2) (yB dC dI cI cJ cB h v i2 j2 a2 b2 A) A) args s 0 0 A) (F0 m 233 ls [.long s0]) := by
  have htt : ∀ w ∈ tw_T, w.before _ s = true := fun w h => hts w (List.mem_cons_of_mem _ h)
  intro H locs ls hP hD hS hl
  rw [m_Model_eval_b233] at hm
  refine lv_lstore (lv' := [(4, .long s0), (0, .ref h), (1, .int v1)]) hx hb d_Model_eval_233 hl (by decide) rfl (fun ls hl => ?_)
  refine lv_goto (tgt := 569) hx hb d_Model_eval_235 (by decide) ?_
  exact lb_Model_eval_569 d G l dC dI cI cJ cB adK adV adA h v n HG hx hb hml hown hts hK hE hA hr hlocks _ _ _ _ _ _ hm _ _ _ hP hD hS (lv_sub hl [1, 2, 0] rfl)
def m_Model_eval_b195 (n : Nat) (G : GB) (i : Nat → Int32) (j : Nat → Int64) (a : Nat → Nat → Int32) (b : Nat → Nat → Int64) (v1 : Int32) (v7 : Int32) (s0 : Int32) : Option ((Nat → Int32) × (Nat → Int64) × (Nat → Nat → Int32) × (Nat → Nat → Int64) × Int64) := om (G.1 i j a b s0) (fun i_2 j_3 a_4 b_5 r_6 => if ((i_2 102)) = ((0 : Int32)) then if v7 = ((40 : Int32)) then om (m_Model_closed n i_2 j_3 a_4 b_5 r_6) (fun i_16 j_17 a_18 b_19 r_20 => m_Model_eval_b233 n G i_16 j_17 a_18 b_19 v1 r_20) else om (m_Model_minus n i_2 j_3 a_4 b_5 r_6) (fun i_10 j_11 a_12 b_13 r_14 => m_Model_eval_b233 n G i_10 j_11 a_12 b_13 v1 r_14) else some (i_2, j_3, a_4, b_5, 3))
set_option maxHeartbeats 4000000 in
set_option maxRecDepth 100000 in
theorem lb_Model_eval_195 (d : Nat) (G : GB) (l : Launch) (dC : Nat → ClassId) (dI : Nat → Nat → Nat) (cI cJ cB : ClassId) (adK adV adA : Nat → Nat) (h : Nat) (v : Nat → Nat) (n : Nat) (HG : GH l dC dI cI cJ cB adK adV adA h v n G d) {p : Program} {e : Env} {s : State} {m : MethodId} {args : Array Value} {below : List Frame} {meth : Method} {c : Code} {A : Nat → Prop} (hx : p.tables.exec = Jvm.exec) (hb : c.code = b_Model_eval) (hml : c.maxLocals = 18) (hown : s.vm.findClass R_Model = some m.cls) (hts : ∀ w ∈ w_Model_eval, w.before args s = true) (hK : va_K (dC, dI) classes [(cI, .int), (cJ, .long), (cB, .byte)] s) (hE : tw_E adK adV adA A s s.heap) (hA : ∀ q : Nat, s.heap.size ≤ q → A q) (hr : meth.sig.returnType = (some .long)) (hlocks : meth.locks = false) {i2 : Nat → Int32} {j2 : Nat → Int64} {a2 : Nat → Nat → Int32} {b2 : Nat → Nat → Int64} {r2 : Int64} (i : Nat → Int32) (j : Nat → Int64) (a : Nat → Nat → Int32) (b : Nat → Nat → Int64) (v1 : Int32) (v7 : Int32) (s0 : Int32) (hm : m_Model_eval_b195 n G i j a b v1 v7 s0 = some (i2, j2, a2, b2, r2)) : ∀ (H : Heap) (locs : List Loc) (ls : Array Slot), va_P (dC, dI) classes (MW cI cJ cB h v i j a b) H → va_D A (MW cI cJ cB h v i j a b) → va_S A s.heap H locs → lv_has ls 18 [(0, .ref h), (1, .int v1), (7, .int v7)] → W p l e (gR (d + 1)) s m args below meth c H locs 0 0 (MQ below (va_Ql (xR r2) (yB dC dI cI cJ cB h v i2 j2 a2 b2 A) A) args s 0 0 A) (F0 m 195 ls [.int s0, .ref h]) := by
  have htt : ∀ w ∈ tw_T, w.before _ s = true := fun w h => hts w (List.mem_cons_of_mem _ h)
  intro H locs ls hP hD hS hl
  rw [m_Model_eval_b195] at hm
  obtain ⟨i_2, j_3, a_4, b_5, r_6, h_1, hm⟩ := om_some hm
  have hFc := x_free hD hS hA
  refine va_calll (va_runV (As := [.int s0]) (rest := []) ⟨hx, hb, hml, hown, hts⟩ (HG.1 H.size _ _ _ _ _ _ _ _ _ _ h_1) (cwV 1 hts (tw_GV tw_cons cw_Model_eval lk_Model_593 in_Model_eval sel_Model_eval ini_Model) rfl rfl rfl ⟨rfl, hd_Model_eval⟩ (gR_up (by decide))) (ypV hK hP hD hS hE hFc yo_12 rfl) rfl rfl hl.1 rfl (lv_room (Nat.le_of_ble_eq_true rfl)) d_Model_eval_195 ⟨Nat.le_of_ble_eq_true rfl, Nat.le_of_ble_eq_true rfl⟩) hS (fun q _ h => hFc q h) hFc (fun r9 u9 t9 H locs ht hvm e9 hB hz1 hk1 hS => ?_)
  have e9 : r_6 = r9 := e9
  subst e9
  obtain ⟨hP, hD⟩ := y_aft hB ht hFc
  clear hFc hk1 hz1 hvm hB ht
  refine lv_lstore (lv' := [(4, .long r_6), (0, .ref h), (1, .int v1), (7, .int v7)]) hx hb d_Model_eval_198 hl (by decide) rfl (fun ls hl => ?_)
  refine lv_aload_n hx hb d_Model_eval_200 rfl (lv_at hl 1 rfl) ?_
  refine va_get (D := (dC, dI)) (ci := 12) (v := .int (i_2 102)) (C := R_Model) (T := F_Model) (N := 127) hx hb htt iw_Model hown hK hP 0 yo_12 rfl 102 (Nat.le_of_ble_eq_true rfl) (htt _ lk_Model_559) (fun _ h9 => h9) yg_102 d_Model_eval_201 ?_
  refine lv_if_eq (tgt := 211) hx hb d_Model_eval_204 (by decide) (fun c_7 => ?_) (fun c_7 => ?_)
  · replace hm := if_t c_7 hm
    refine lv_iload hx hb d_Model_eval_211 (lv_at hl 3 rfl) ?_
    refine lv_bipush (v := 40) hx hb d_Model_eval_213 (by decide) ?_
    refine lv_icmp_ne (tgt := 227) hx hb d_Model_eval_215 (by decide) (fun c_8 => ?_) (fun c_8 => ?_)
    · replace hm := if_f c_8 hm
      refine lv_aload_n hx hb d_Model_eval_227 rfl (lv_at hl 1 rfl) ?_
      refine lv_lload hx hb d_Model_eval_228 (lv_at hl 0 rfl) ?_
      obtain ⟨i_10, j_11, a_12, b_13, r_14, h_9, hm⟩ := om_some hm
      have hFc := x_free hD hS hA
      refine va_calll (va_runV (As := [.long r_6]) (rest := []) ⟨hx, hb, hml, hown, hts⟩ (x_Model_minus l dC dI cI cJ cB adK adV adA h v H.size n h_9) (cwV 1 hts (tw_GV tw_cons cw_Model_minus lk_Model_614 in_Model_minus sel_Model_minus ini_Model) rfl rfl rfl ⟨rfl, hd_Model_minus⟩ (gR_fit (d + 1) (Nat.le_of_ble_eq_true rfl) (Nat.le_of_ble_eq_true rfl))) (ypV hK hP hD hS hE hFc yo_12 rfl) rfl rfl hl.1 rfl (lv_room (Nat.le_of_ble_eq_true rfl)) d_Model_eval_230 ⟨Nat.le_of_ble_eq_true rfl, Nat.le_of_ble_eq_true rfl⟩) hS (fun q _ h => hFc q h) hFc (fun r9 u9 t9 H locs ht hvm e9 hB hz1 hk1 hS => ?_)
      have e9 : r_14 = r9 := e9
      subst e9
      obtain ⟨hP, hD⟩ := y_aft hB ht hFc
      clear hFc hk1 hz1 hvm hB ht
      exact lb_Model_eval_233 d G l dC dI cI cJ cB adK adV adA h v n HG hx hb hml hown hts hK hE hA hr hlocks _ _ _ _ _ _ hm _ _ _ hP hD hS (lv_sub hl [1, 2] rfl)
    · replace hm := if_t c_8 hm
      refine lv_aload_n hx hb d_Model_eval_218 rfl (lv_at hl 1 rfl) ?_
      refine lv_lload hx hb d_Model_eval_219 (lv_at hl 0 rfl) ?_
      obtain ⟨i_16, j_17, a_18, b_19, r_20, h_15, hm⟩ := om_some hm
      have hFc := x_free hD hS hA
      refine va_calll (va_runV (As := [.long r_6]) (rest := []) ⟨hx, hb, hml, hown, hts⟩ (x_Model_closed l dC dI cI cJ cB adK adV adA h v H.size n h_15) (cwV 1 hts (tw_GV tw_cons cw_Model_closed lk_Model_611 in_Model_closed sel_Model_closed ini_Model) rfl rfl rfl ⟨rfl, hd_Model_closed⟩ (gR_fit (d + 1) (Nat.le_of_ble_eq_true rfl) (Nat.le_of_ble_eq_true rfl))) (ypV hK hP hD hS hE hFc yo_12 rfl) rfl rfl hl.1 rfl (lv_room (Nat.le_of_ble_eq_true rfl)) d_Model_eval_221 ⟨Nat.le_of_ble_eq_true rfl, Nat.le_of_ble_eq_true rfl⟩) hS (fun q _ h => hFc q h) hFc (fun r9 u9 t9 H locs ht hvm e9 hB hz1 hk1 hS => ?_)
      have e9 : r_20 = r9 := e9
      subst e9
      obtain ⟨hP, hD⟩ := y_aft hB ht hFc
      clear hFc hk1 hz1 hvm hB ht
      refine lv_goto (tgt := 233) hx hb d_Model_eval_224 (by decide) ?_
      exact lb_Model_eval_233 d G l dC dI cI cJ cB adK adV adA h v n HG hx hb hml hown hts hK hE hA hr hlocks _ _ _ _ _ _ hm _ _ _ hP hD hS (lv_sub hl [1, 2] rfl)
  · replace hm := if_f c_7 hm
    refine lv_ldc2 (v := 3) hx hb hown (htt _ lk_Model_7) d_Model_eval_207 ?_
    obtain ⟨e1i, e1j, e1a, e1b, e3⟩ := re4m hm
    obtain ⟨hP, hD⟩ := y_eq e1i e1j e1a e1b hP hD
    exact W.lret hx hb hr (fun t9 ht hW => ⟨⟨_, (), rfl, e3.symm, by rw [ht]; exact hP, hD⟩, hS.F ht⟩) hS.2.2 d_Model_eval_210
def m_Model_eval_b171 (n : Nat) (G : GB) (i : Nat → Int32) (j : Nat → Int64) (a : Nat → Nat → Int32) (b : Nat → Nat → Int64) (v1 : Int32) (v7 : Int32) : Option ((Nat → Int32) × (Nat → Int64) × (Nat → Nat → Int32) × (Nat → Nat → Int64) × Int64) := om (m_Model_waits n i j a b) (fun i_2 j_3 a_4 b_5 r_6 => if r_6 = ((0 : Int32)) then some (i_2, j_3, a_4, b_5, 3) else if v7 = ((40 : Int32)) then m_Model_eval_b195 n G i_2 j_3 a_4 b_5 v1 v7 (0 : Int32) else m_Model_eval_b195 n G i_2 j_3 a_4 b_5 v1 v7 (4 : Int32))
set_option maxHeartbeats 4000000 in
set_option maxRecDepth 100000 in
theorem lb_Model_eval_171 (d : Nat) (G : GB) (l : Launch) (dC : Nat → ClassId) (dI : Nat → Nat → Nat) (cI cJ cB : ClassId) (adK adV adA : Nat → Nat) (h : Nat) (v : Nat → Nat) (n : Nat) (HG : GH l dC dI cI cJ cB adK adV adA h v n G d) {p : Program} {e : Env} {s : State} {m : MethodId} {args : Array Value} {below : List Frame} {meth : Method} {c : Code} {A : Nat → Prop} (hx : p.tables.exec = Jvm.exec) (hb : c.code = b_Model_eval) (hml : c.maxLocals = 18) (hown : s.vm.findClass R_Model = some m.cls) (hts : ∀ w ∈ w_Model_eval, w.before args s = true) (hK : va_K (dC, dI) classes [(cI, .int), (cJ, .long), (cB, .byte)] s) (hE : tw_E adK adV adA A s s.heap) (hA : ∀ q : Nat, s.heap.size ≤ q → A q) (hr : meth.sig.returnType = (some .long)) (hlocks : meth.locks = false) {i2 : Nat → Int32} {j2 : Nat → Int64} {a2 : Nat → Nat → Int32} {b2 : Nat → Nat → Int64} {r2 : Int64} (i : Nat → Int32) (j : Nat → Int64) (a : Nat → Nat → Int32) (b : Nat → Nat → Int64) (v1 : Int32) (v7 : Int32) (hm : m_Model_eval_b171 n G i j a b v1 v7 = some (i2, j2, a2, b2, r2)) : ∀ (H : Heap) (locs : List Loc) (ls : Array Slot), va_P (dC, dI) classes (MW cI cJ cB h v i j a b) H → va_D A (MW cI cJ cB h v i j a b) → va_S A s.heap H locs → lv_has ls 18 [(0, .ref h), (1, .int v1), (7, .int v7)] → W p l e (gR (d + 1)) s m args below meth c H locs 0 0 (MQ below (va_Ql (xR r2) (yB dC dI cI cJ cB h v i2 j2 a2 b2 A) A) args s 0 0 A) (F0 m 171 ls []) := by
  have htt : ∀ w ∈ tw_T, w.before _ s = true := fun w h => hts w (List.mem_cons_of_mem _ h)
  intro H locs ls hP hD hS hl
  rw [m_Model_eval_b171] at hm
  refine lv_aload_n hx hb d_Model_eval_171 rfl (lv_at hl 0 rfl) ?_
  obtain ⟨i_2, j_3, a_4, b_5, r_6, h_1, hm⟩ := om_some hm
  have hFc := x_free hD hS hA
  refine va_calli (va_runV (As := []) (rest := []) ⟨hx, hb, hml, hown, hts⟩ (x_Model_waits l dC dI cI cJ cB adK adV adA h v H.size n h_1) (cwV 0 hts (tw_GV tw_cons cw_Model_waits lk_Model_608 in_Model_waits sel_Model_waits ini_Model) rfl rfl rfl ⟨rfl, hd_Model_waits⟩ (gR_fit (d + 1) (Nat.le_of_ble_eq_true rfl) (Nat.le_of_ble_eq_true rfl))) (ypV hK hP hD hS hE hFc yo_12 rfl) rfl rfl hl.1 rfl (lv_room (Nat.le_of_ble_eq_true rfl)) d_Model_eval_172 ⟨Nat.le_of_ble_eq_true rfl, Nat.le_of_ble_eq_true rfl⟩) hS (fun q _ h => hFc q h) hFc (fun r9 u9 t9 H locs ht hvm e9 hB hz1 hk1 hS => ?_)
  have e9 : r_6 = r9 := e9
  subst e9
  obtain ⟨hP, hD⟩ := y_aft hB ht hFc
  clear hFc hk1 hz1 hvm hB ht
  refine lv_if_ne (tgt := 182) hx hb d_Model_eval_175 (by decide) (fun c_7 => ?_) (fun c_7 => ?_)
  · replace hm := if_f c_7 hm
    refine lv_aload_n hx hb d_Model_eval_182 rfl (lv_at hl 0 rfl) ?_
    refine lv_iload hx hb d_Model_eval_183 (lv_at hl 2 rfl) ?_
    refine lv_bipush (v := 40) hx hb d_Model_eval_185 (by decide) ?_
    refine lv_icmp_ne (tgt := 194) hx hb d_Model_eval_187 (by decide) (fun c_8 => ?_) (fun c_8 => ?_)
    · replace hm := if_f c_8 hm
      refine lv_iconst (v := 4) hx hb d_Model_eval_194 (by decide) ?_
      exact lb_Model_eval_195 d G l dC dI cI cJ cB adK adV adA h v n HG hx hb hml hown hts hK hE hA hr hlocks _ _ _ _ _ _ _ hm _ _ _ hP hD hS (lv_sub hl [0, 1, 2] rfl)
    · replace hm := if_t c_8 hm
      refine lv_iconst (v := 0) hx hb d_Model_eval_190 (by decide) ?_
      refine lv_goto (tgt := 195) hx hb d_Model_eval_191 (by decide) ?_
      exact lb_Model_eval_195 d G l dC dI cI cJ cB adK adV adA h v n HG hx hb hml hown hts hK hE hA hr hlocks _ _ _ _ _ _ _ hm _ _ _ hP hD hS (lv_sub hl [0, 1, 2] rfl)
  · replace hm := if_t c_7 hm
    refine lv_ldc2 (v := 3) hx hb hown (htt _ lk_Model_7) d_Model_eval_178 ?_
    obtain ⟨e1i, e1j, e1a, e1b, e3⟩ := re4m hm
    obtain ⟨hP, hD⟩ := y_eq e1i e1j e1a e1b hP hD
    exact W.lret hx hb hr (fun t9 ht hW => ⟨⟨_, (), rfl, e3.symm, by rw [ht]; exact hP, hD⟩, hS.F ht⟩) hS.2.2 d_Model_eval_181
def m_Model_eval_b98 (n : Nat) (G : GB) (i : Nat → Int32) (j : Nat → Int64) (a : Nat → Nat → Int32) (b : Nat → Nat → Int64) (v1 : Int32) (v6 : Int32) (v7 : Int32) (s0 : Int32) : Option ((Nat → Int32) × (Nat → Int64) × (Nat → Nat → Int32) × (Nat → Nat → Int64) × Int64) := if v7 = ((34 : Int32)) then om (m_Model_quoted n i j a b v6) (fun i_15 j_16 a_17 b_18 r_19 => m_Model_eval_b569 n G i_15 j_16 a_17 b_18 v1 r_19) else if v7 = ((58 : Int32)) then ck v6 120000 (ck v6 120000 (om (m_Model_valueOf n i j a b ((a 3 v6.toNatClampNeg) + 1) ((a 4 v6.toNatClampNeg) - 1)) (fun i_9 j_10 a_11 b_12 r_13 => m_Model_eval_b569 n G i_9 j_10 a_11 b_12 v1 r_13))) else if s0 = ((0 : Int32)) then m_Model_eval_b238 n G i j a b v1 v6 v7 s0 else if v7 = ((40 : Int32)) then m_Model_eval_b171 n G i j a b v1 v7 else if v7 = ((45 : Int32)) then m_Model_eval_b171 n G i j a b v1 v7 else m_Model_eval_b238 n G i j a b v1 v6 v7 s0
set_option maxHeartbeats 4000000 in
set_option maxRecDepth 100000 in
theorem lb_Model_eval_98 (d : Nat) (G : GB) (l : Launch) (dC : Nat → ClassId) (dI : Nat → Nat → Nat) (cI cJ cB : ClassId) (adK adV adA : Nat → Nat) (h : Nat) (v : Nat → Nat) (n : Nat) (HG : GH l dC dI cI cJ cB adK adV adA h v n G d) {p : Program} {e : Env} {s : State} {m : MethodId} {args : Array Value} {below : List Frame} {meth : Method} {c : Code} {A : Nat → Prop} (hx : p.tables.exec = Jvm.exec) (hb : c.code = b_Model_eval) (hml : c.maxLocals = 18) (hown : s.vm.findClass R_Model = some m.cls) (hts : ∀ w ∈ w_Model_eval, w.before args s = true) (hK : va_K (dC, dI) classes [(cI, .int), (cJ, .long), (cB, .byte)] s) (hE : tw_E adK adV adA A s s.heap) (hA : ∀ q : Nat, s.heap.size ≤ q → A q) (hr : meth.sig.returnType = (some .long)) (hlocks : meth.locks = false) {i2 : Nat → Int32} {j2 : Nat → Int64} {a2 : Nat → Nat → Int32} {b2 : Nat → Nat → Int64} {r2 : Int64} (i : Nat → Int32) (j : Nat → Int64) (a : Nat → Nat → Int32) (b : Nat → Nat → Int64) (v1 : Int32) (v6 : Int32) (v7 : Int32) (s0 : Int32) (hm : m_Model_eval_b98 n G i j a b v1 v6 v7 s0 = some (i2, j2, a2, b2, r2)) : ∀ (H : Heap) (locs : List Loc) (ls : Array Slot), va_P (dC, dI) classes (MW cI cJ cB h v i j a b) H → va_D A (MW cI cJ cB h v i j a b) → va_S A s.heap H locs → lv_has ls 18 [(0, .ref h), (1, .int v1), (6, .int v6), (7, .int v7)] → W p l e (gR (d + 1)) s m args below meth c H locs 0 0 (MQ below (va_Ql (xR r2) (yB dC dI cI cJ cB h v i2 j2 a2 b2 A) A) args s 0 0 A) (F0 m 98 ls [.int s0]) := by
  have htt : ∀ w ∈ tw_T, w.before _ s = true := fun w h => hts w (List.mem_cons_of_mem _ h)
  intro H locs ls hP hD hS hl
  rw [m_Model_eval_b98] at hm
  refine lv_istore (lv' := [(8, .int s0), (0, .ref h), (1, .int v1), (6, .int v6), (7, .int v7)]) hx hb d_Model_eval_98 hl (by decide) rfl (fun ls hl => ?_)
  refine lv_iload hx hb d_Model_eval_100 (lv_at hl 4 rfl) ?_
  refine lv_bipush (v := 34) hx hb d_Model_eval_102 (by decide) ?_
  refine lv_icmp_ne (tgt := 118) hx hb d_Model_eval_104 (by decide) (fun c_1 => ?_) (fun c_1 => ?_)
  · replace hm := if_f c_1 hm
    refine lv_iload hx hb d_Model_eval_118 (lv_at hl 4 rfl) ?_
    refine lv_bipush (v := 58) hx hb d_Model_eval_120 (by decide) ?_
    refine lv_icmp_ne (tgt := 152) hx hb d_Model_eval_122 (by decide) (fun c_2 => ?_) (fun c_2 => ?_)
    · replace hm := if_f c_2 hm
      refine lv_iload hx hb d_Model_eval_152 (lv_at hl 0 rfl) ?_
      refine lv_if_eq (tgt := 238) hx hb d_Model_eval_154 (by decide) (fun c_3 => ?_) (fun c_3 => ?_)
      · replace hm := if_t c_3 hm
        exact lb_Model_eval_238 d G l dC dI cI cJ cB adK adV adA h v n HG hx hb hml hown hts hK hE hA hr hlocks _ _ _ _ _ _ _ _ hm _ _ _ hP hD hS (lv_sub hl [1, 2, 3, 4, 0] rfl)
      · replace hm := if_f c_3 hm
        refine lv_iload hx hb d_Model_eval_157 (lv_at hl 4 rfl) ?_
        refine lv_bipush (v := 40) hx hb d_Model_eval_159 (by decide) ?_
        refine lv_icmp_eq (tgt := 171) hx hb d_Model_eval_161 (by decide) (fun c_4 => ?_) (fun c_4 => ?_)
        · replace hm := if_t c_4 hm
          exact lb_Model_eval_171 d G l dC dI cI cJ cB adK adV adA h v n HG hx hb hml hown hts hK hE hA hr hlocks _ _ _ _ _ _ hm _ _ _ hP hD hS (lv_sub hl [1, 2, 4] rfl)
        · replace hm := if_f c_4 hm
          refine lv_iload hx hb d_Model_eval_164 (lv_at hl 4 rfl) ?_
          refine lv_bipush (v := 45) hx hb d_Model_eval_166 (by decide) ?_
          refine lv_icmp_ne (tgt := 238) hx hb d_Model_eval_168 (by decide) (fun c_5 => ?_) (fun c_5 => ?_)
          · replace hm := if_f c_5 hm
            exact lb_Model_eval_238 d G l dC dI cI cJ cB adK adV adA h v n HG hx hb hml hown hts hK hE hA hr hlocks _ _ _ _ _ _ _ _ hm _ _ _ hP hD hS (lv_sub hl [1, 2, 3, 4, 0] rfl)
          · replace hm := if_t c_5 hm
            exact lb_Model_eval_171 d G l dC dI cI cJ cB adK adV adA h v n HG hx hb hml hown hts hK hE hA hr hlocks _ _ _ _ _ _ hm _ _ _ hP hD hS (lv_sub hl [1, 2, 4] rfl)
    · replace hm := if_t c_2 hm
      refine lv_aload_n hx hb d_Model_eval_125 rfl (lv_at hl 1 rfl) ?_
      refine lv_aload_n hx hb d_Model_eval_126 rfl (lv_at hl 1 rfl) ?_
      refine va_get (D := (dC, dI)) (ci := 12) (v := .ref ((v 3))) (C := R_Model) (T := F_Model) (N := 127) hx hb htt iw_Model hown hK hP 0 yo_12 rfl 3 (Nat.le_of_ble_eq_true rfl) (htt _ lk_Model_15) (fun _ h9 => h9) yg_3 d_Model_eval_127 ?_
      refine lv_iload hx hb d_Model_eval_130 (lv_at hl 3 rfl) ?_
      obtain ⟨h_6, hm⟩ := ck_some hm
      refine va_iald hx hb hK hP 3 0 ya_3 rfl h_6 d_Model_eval_132 ?_
      refine lv_iconst (v := 1) hx hb d_Model_eval_133 (by decide) ?_
      refine lv_iadd hx hb d_Model_eval_134 ?_
      refine lv_aload_n hx hb d_Model_eval_135 rfl (lv_at hl 1 rfl) ?_
      refine va_get (D := (dC, dI)) (ci := 12) (v := .ref ((v 4))) (C := R_Model) (T := F_Model) (N := 127) hx hb htt iw_Model hown hK hP 0 yo_12 rfl 4 (Nat.le_of_ble_eq_true rfl) (htt _ lk_Model_22) (fun _ h9 => h9) yg_4 d_Model_eval_136 ?_
      refine lv_iload hx hb d_Model_eval_139 (lv_at hl 3 rfl) ?_
      obtain ⟨h_7, hm⟩ := ck_some hm
      refine va_iald hx hb hK hP 4 0 ya_4 rfl h_7 d_Model_eval_141 ?_
      refine lv_iconst (v := 1) hx hb d_Model_eval_142 (by decide) ?_
      refine lv_isub hx hb d_Model_eval_143 ?_
      obtain ⟨i_9, j_10, a_11, b_12, r_13, h_8, hm⟩ := om_some hm
      have hFc := x_free hD hS hA
      refine va_calll (va_runV (As := [.int ((a 3 v6.toNatClampNeg) + 1), .int ((a 4 v6.toNatClampNeg) - 1)]) (rest := []) ⟨hx, hb, hml, hown, hts⟩ (x_Model_valueOf l dC dI cI cJ cB adK adV adA h v H.size n h_8) (cwV 2 hts (tw_GV tw_cons cw_Model_valueOf lk_Model_605 in_Model_valueOf sel_Model_valueOf ini_Model) rfl rfl rfl ⟨rfl, hd_Model_valueOf⟩ (gR_fit (d + 1) (Nat.le_of_ble_eq_true rfl) (Nat.le_of_ble_eq_true rfl))) (ypV hK hP hD hS hE hFc yo_12 rfl) rfl rfl hl.1 rfl (lv_room (Nat.le_of_ble_eq_true rfl)) d_Model_eval_144 ⟨Nat.le_of_ble_eq_true rfl, Nat.le_of_ble_eq_true rfl⟩) hS (fun q _ h => hFc q h) hFc (fun r9 u9 t9 H locs ht hvm e9 hB hz1 hk1 hS => ?_)
      have e9 : r_13 = r9 := e9
      subst e9
      obtain ⟨hP, hD⟩ := y_aft hB ht hFc
      clear hFc hk1 hz1 hvm hB ht
      refine lv_lstore (lv' := [(4, .long r_13), (8, .int s0), (0, .ref h), (1, .int v1), (6, .int v6), (7, .int v7)]) hx hb d_Model_eval_147 hl (by decide) rfl (fun ls hl => ?_)
      refine lv_goto (tgt := 569) hx hb d_Model_eval_149 (by decide) ?_
      exact lb_Model_eval_569 d G l dC dI cI cJ cB adK adV adA h v n HG hx hb hml hown hts hK hE hA hr hlocks _ _ _ _ _ _ hm _ _ _ hP hD hS (lv_sub hl [2, 3, 0] rfl)
  · replace hm := if_t c_1 hm
    refine lv_aload_n hx hb d_Model_eval_107 rfl (lv_at hl 1 rfl) ?_
    refine lv_iload hx hb d_Model_eval_108 (lv_at hl 3 rfl) ?_
    obtain ⟨i_15, j_16, a_17, b_18, r_19, h_14, hm⟩ := om_some hm
    have hFc := x_free hD hS hA
    refine va_calll (va_runV (As := [.int v6]) (rest := []) ⟨hx, hb, hml, hown, hts⟩ (x_Model_quoted l dC dI cI cJ cB adK adV adA h v H.size n h_14) (cwV 1 hts (tw_GV tw_cons cw_Model_quoted lk_Model_602 in_Model_quoted sel_Model_quoted ini_Model) rfl rfl rfl ⟨rfl, hd_Model_quoted⟩ (gR_fit (d + 1) (Nat.le_of_ble_eq_true rfl) (Nat.le_of_ble_eq_true rfl))) (ypV hK hP hD hS hE hFc yo_12 rfl) rfl rfl hl.1 rfl (lv_room (Nat.le_of_ble_eq_true rfl)) d_Model_eval_110 ⟨Nat.le_of_ble_eq_true rfl, Nat.le_of_ble_eq_true rfl⟩) hS (fun q _ h => hFc q h) hFc (fun r9 u9 t9 H locs ht hvm e9 hB hz1 hk1 hS => ?_)
    have e9 : r_19 = r9 := e9
    subst e9
    obtain ⟨hP, hD⟩ := y_aft hB ht hFc
    clear hFc hk1 hz1 hvm hB ht
    refine lv_lstore (lv' := [(4, .long r_19), (8, .int s0), (0, .ref h), (1, .int v1), (6, .int v6), (7, .int v7)]) hx hb d_Model_eval_113 hl (by decide) rfl (fun ls hl => ?_)
    refine lv_goto (tgt := 569) hx hb d_Model_eval_115 (by decide) ?_
    exact lb_Model_eval_569 d G l dC dI cI cJ cB adK adV adA h v n HG hx hb hml hown hts hK hE hA hr hlocks _ _ _ _ _ _ hm _ _ _ hP hD hS (lv_sub hl [2, 3, 0] rfl)
def m_Model_eval (n : Nat) (G : GB) (i : Nat → Int32) (j : Nat → Int64) (a : Nat → Nat → Int32) (b : Nat → Nat → Int64) (v1 : Int32) : Option ((Nat → Int32) × (Nat → Int64) × (Nat → Nat → Int32) × (Nat → Nat → Int64) × Int64) := ck ((i 105)) 90000 (if ((i 106)) < ((a 13 (i 105).toNatClampNeg)) then ck ((i 105)) 90000 (ck (((a 12 (i 105).toNatClampNeg) + (i 106))) 90000 (ob1 (b 10 ((a 12 (i 105).toNatClampNeg) + (i 106)).toNatClampNeg : Int64) (fun x_5 => ob1 ((i 106) + 1 : Int32) (fun x_6 => ob1 (upd i 106 x_6 : Nat → Int32) (fun i_7 => ob0 (m_Model_isWord n x_5) (fun r_9 => if r_9 = ((0 : Int32)) then m_Model_eval_b580 n G i_7 j a b v1 x_5 else ob0 (m_Model_what n x_5) (fun r_12 => ck r_12 120000 (ck ((a 3 r_12.toNatClampNeg)) 300000 (ob1 (a 1 (a 3 r_12.toNatClampNeg).toNatClampNeg : Int32) (fun x_15 => ck r_12 120000 (if ((a 4 r_12.toNatClampNeg)) = ((1 : Int32)) then m_Model_eval_b98 n G i_7 j a b v1 r_12 x_15 (1 : Int32) else m_Model_eval_b98 n G i_7 j a b v1 r_12 x_15 (0 : Int32)))))))))))) else om (m_Model_fails n i j a b (4 : Int32)) (fun i_19 j_20 a_21 b_22 r_23 => some (i_19, j_20, a_21, b_22, r_23)))
set_option maxHeartbeats 4000000 in
set_option maxRecDepth 100000 in
theorem x_Model_eval (d : Nat) (G : GB) (l : Launch) (dC : Nat → ClassId) (dI : Nat → Nat → Nat) (cI cJ cB : ClassId) (adK adV adA : Nat → Nat) (h : Nat) (v : Nat → Nat) (sz : Nat) (n : Nat) (HG : GH l dC dI cI cJ cB adK adV adA h v n G d) {i : Nat → Int32} {j : Nat → Int64} {a : Nat → Nat → Int32} {b : Nat → Nat → Int64} {v1 : Int32} {i2 : Nat → Int32} {j2 : Nat → Int64} {a2 : Nat → Nat → Int32} {b2 : Nat → Nat → Int64} {r2 : Int64} (hm : m_Model_eval n G i j a b v1 = some (i2, j2, a2, b2, r2)) : Met l y_Model_eval w_Model_eval (gR (d + 1)) (va_Pc [.ref h, .int v1] (yE dC dI cI cJ cB adK adV adA h v i j a b sz)) (va_Ql (xR r2) (yB dC dI cI cJ cB h v i2 j2 a2 b2 (va_A (MW cI cJ cB h v i j a b) sz)) (va_A (MW cI cJ cB h v i j a b) sz)) 0 0 ((va_A (MW cI cJ cB h v i j a b) sz)) := by
  refine Met.ofW (cc := b_Model_eval) (maxL := 18) (ret := (some .long)) (by decide) rfl ?_
  intro p e s m args below meth c s₁ B hml hv
  obtain ⟨rfl, hsz, hP, hK, hE, hD0⟩ := hv
  have hx := B.exec
  have hb := B.bytes
  have hr := B.returns
  have hts := atoms_spec (ws := w_Model_eval) B.pre
  have htt : ∀ w ∈ tw_T, w.before _ s = true := fun w h => hts w (List.mem_cons_of_mem _ h)
  have hown : s.vm.findClass R_Model = some m.cls := findClass_of_methodNamed B.named
  have hlocks := B.notSynchronized
  subst hsz
  have hD := hD0.self (sz := s.heap.size)
  generalize hAe : (va_A (MW cI cJ cB h v i j a b) s.heap.size) = A at hD hE ⊢
  have hA : ∀ q : Nat, s.heap.size ≤ q → A q := fun q h => by rw [← hAe]; exact Or.inr h
  have hS : va_S A s.heap s.heap [] := va_S.rf
  have hl := lv_entry ([.ref h, .int v1]) (n := 18) (Nat.le_of_ble_eq_true rfl)
  rw [lg_entry_eq]
  generalize (lg_sl ([.ref h, .int v1]) ++ List.replicate (18 - (lg_sl ([.ref h, .int v1])).length) Slot.unset).toArray = ls at hl ⊢
  have hl : lv_has ls 18 [(0, .ref h), (1, .int v1)] := hl
  rw [m_Model_eval] at hm
  refine lv_aload_n hx hb d_Model_eval_0 rfl (lv_at hl 0 rfl) ?_
  refine va_get (D := (dC, dI)) (ci := 12) (v := .int (i 106)) (C := R_Model) (T := F_Model) (N := 127) hx hb htt iw_Model hown hK hP 0 yo_12 rfl 106 (Nat.le_of_ble_eq_true rfl) (htt _ lk_Model_590) (fun _ h9 => h9) yg_106 d_Model_eval_1 ?_
  refine lv_aload_n hx hb d_Model_eval_4 rfl (lv_at hl 0 rfl) ?_
  refine va_get (D := (dC, dI)) (ci := 12) (v := .ref ((v 13))) (C := R_Model) (T := F_Model) (N := 127) hx hb htt iw_Model hown hK hP 0 yo_12 rfl 13 (Nat.le_of_ble_eq_true rfl) (htt _ lk_Model_47) (fun _ h9 => h9) yg_13 d_Model_eval_5 ?_
  refine lv_aload_n hx hb d_Model_eval_8 rfl (lv_at hl 0 rfl) ?_
  refine va_get (D := (dC, dI)) (ci := 12) (v := .int (i 105)) (C := R_Model) (T := F_Model) (N := 127) hx hb htt iw_Model hown hK hP 0 yo_12 rfl 105 (Nat.le_of_ble_eq_true rfl) (htt _ lk_Model_587) (fun _ h9 => h9) yg_105 d_Model_eval_9 ?_
  obtain ⟨h_1, hm⟩ := ck_some hm
  refine va_iald hx hb hK hP 13 0 ya_13 rfl h_1 d_Model_eval_12 ?_
  refine lv_icmp_lt (tgt := 22) hx hb d_Model_eval_13 (by decide) (fun c_2 => ?_) (fun c_2 => ?_)
  · replace hm := if_t c_2 hm
    refine lv_aload_n hx hb d_Model_eval_22 rfl (lv_at hl 0 rfl) ?_
    refine va_get (D := (dC, dI)) (ci := 12) (v := .ref ((v 10))) (C := R_Model) (T := F_Model) (N := 127) hx hb htt iw_Model hown hK hP 0 yo_12 rfl 10 (Nat.le_of_ble_eq_true rfl) (htt _ lk_Model_35) (fun _ h9 => h9) yg_10 d_Model_eval_23 ?_
    refine lv_aload_n hx hb d_Model_eval_26 rfl (lv_at hl 0 rfl) ?_
    refine va_get (D := (dC, dI)) (ci := 12) (v := .ref ((v 12))) (C := R_Model) (T := F_Model) (N := 127) hx hb htt iw_Model hown hK hP 0 yo_12 rfl 12 (Nat.le_of_ble_eq_true rfl) (htt _ lk_Model_41) (fun _ h9 => h9) yg_12 d_Model_eval_27 ?_
    refine lv_aload_n hx hb d_Model_eval_30 rfl (lv_at hl 0 rfl) ?_
    refine va_get (D := (dC, dI)) (ci := 12) (v := .int (i 105)) (C := R_Model) (T := F_Model) (N := 127) hx hb htt iw_Model hown hK hP 0 yo_12 rfl 105 (Nat.le_of_ble_eq_true rfl) (htt _ lk_Model_587) (fun _ h9 => h9) yg_105 d_Model_eval_31 ?_
    obtain ⟨h_3, hm⟩ := ck_some hm
    refine va_iald hx hb hK hP 12 0 ya_12 rfl h_3 d_Model_eval_34 ?_
    refine lv_aload_n hx hb d_Model_eval_35 rfl (lv_at hl 0 rfl) ?_
    refine va_get (D := (dC, dI)) (ci := 12) (v := .int (i 106)) (C := R_Model) (T := F_Model) (N := 127) hx hb htt iw_Model hown hK hP 0 yo_12 rfl 106 (Nat.le_of_ble_eq_true rfl) (htt _ lk_Model_590) (fun _ h9 => h9) yg_106 d_Model_eval_36 ?_
    refine lv_iadd hx hb d_Model_eval_39 ?_
    obtain ⟨h_4, hm⟩ := ck_some hm
    refine va_lald hx hb hK hP 10 1 ya_10 rfl h_4 d_Model_eval_40 ?_
    refine lv_topl (fun x_5 ex_5 => ?_)
    replace hm := ob1_at ex_5 hm
    refine lv_lstore_n (lv' := [(2, .long x_5), (0, .ref h), (1, .int v1)]) hx hb d_Model_eval_41 rfl hl (by decide) rfl (fun ls hl => ?_)
    refine lv_aload_n hx hb d_Model_eval_42 rfl (lv_at hl 1 rfl) ?_
    refine lv_dup hx hb d_Model_eval_43 rfl ?_
    refine va_get (D := (dC, dI)) (ci := 12) (v := .int (i 106)) (C := R_Model) (T := F_Model) (N := 127) hx hb htt iw_Model hown hK hP 0 yo_12 rfl 106 (Nat.le_of_ble_eq_true rfl) (htt _ lk_Model_590) (fun _ h9 => h9) yg_106 d_Model_eval_44 ?_
    refine lv_iconst (v := 1) hx hb d_Model_eval_47 (by decide) ?_
    refine lv_iadd hx hb d_Model_eval_48 ?_
    refine lv_topi (fun x_6 ex_6 => ?_)
    replace hm := ob1_at ex_6 hm
    refine va_put (D := (dC, dI)) (ci := 12) (v := .int x_6) (ty := .int) (C := R_Model) (T := F_Model) (N := 127) hx hb htt iw_Model t_Model t_Model_ok n_Model hown hK hP hD hS 0 yo_12 rfl 106 (Nat.le_of_ble_eq_true rfl) (htt _ lk_Model_590) (fun _ h9 => h9) rfl (by decide +kernel) rfl rfl yl_106 d_Model_eval_49 (fun H locs hP hD hS => ?_)
    obtain ⟨i_7, ei_7⟩ : ∃ y9 : Nat → Int32, y9 = upd i 106 x_6 := ⟨_, rfl⟩
    replace hm := ob1_at ei_7 hm
    obtain ⟨hP, hD⟩ := yw_106 ei_7 hP hD
    refine lv_lload_n hx hb d_Model_eval_52 rfl (lv_at hl 0 rfl) ?_
    refine lv_lstore (lv' := [(4, .long x_5), (2, .long x_5), (0, .ref h), (1, .int v1)]) hx hb d_Model_eval_53 hl (by decide) rfl (fun ls hl => ?_)
    refine lv_lload_n hx hb d_Model_eval_55 rfl (lv_at hl 1 rfl) ?_
    obtain ⟨r_9, h_8, hm⟩ := ob0_some hm
    have hFc := x_free0 hS hA
    refine va_calli (va_runS (As := [.long x_5]) (rest := []) ⟨hx, hb, hml, hown, hts⟩ (x_Model_isWord l H.size n h_8) (va_cwS 1 hts (tw_GS tw_cons cw_Model_isWord lk_Model_61 st_Model_isWord ini_Model) rfl rfl rfl hd_Model_isWord (gR_fit (d + 1) (Nat.le_of_ble_eq_true rfl) (Nat.le_of_ble_eq_true rfl))) xpS0 rfl rfl hl.1 rfl (lv_room (Nat.le_of_ble_eq_true rfl)) d_Model_eval_56 ⟨Nat.le_of_ble_eq_true rfl, Nat.le_of_ble_eq_true rfl⟩) hS (fun q _ h => hFc q h) hFc (fun r9 u9 t9 H locs ht hvm e9 hB hz1 hk1 hS => ?_)
    have e9 : r_9 = r9 := e9
    subst e9
    replace hP := x_keep hP hk1
    clear hFc hk1 hz1 hvm hB ht
    refine lv_if_eq (tgt := 580) hx hb d_Model_eval_59 (by decide) (fun c_10 => ?_) (fun c_10 => ?_)
    · replace hm := if_t c_10 hm
      exact lb_Model_eval_580 d G l dC dI cI cJ cB adK adV adA h v n HG hx hb hml hown hts hK hE hA hr hlocks _ _ _ _ _ _ hm _ _ _ hP hD hS (lv_sub hl [2, 3, 0] rfl)
    · replace hm := if_f c_10 hm
      refine lv_lload_n hx hb d_Model_eval_62 rfl (lv_at hl 1 rfl) ?_
      obtain ⟨r_12, h_11, hm⟩ := ob0_some hm
      have hFc := x_free0 hS hA
      refine va_calli (va_runS (As := [.long x_5]) (rest := []) ⟨hx, hb, hml, hown, hts⟩ (x_Model_what l H.size n h_11) (va_cwS 1 hts (tw_GS tw_cons cw_Model_what lk_Model_64 st_Model_what ini_Model) rfl rfl rfl hd_Model_what (gR_fit (d + 1) (Nat.le_of_ble_eq_true rfl) (Nat.le_of_ble_eq_true rfl))) xpS0 rfl rfl hl.1 rfl (lv_room (Nat.le_of_ble_eq_true rfl)) d_Model_eval_63 ⟨Nat.le_of_ble_eq_true rfl, Nat.le_of_ble_eq_true rfl⟩) hS (fun q _ h => hFc q h) hFc (fun r9 u9 t9 H locs ht hvm e9 hB hz1 hk1 hS => ?_)
      have e9 : r_12 = r9 := e9
      subst e9
      replace hP := x_keep hP hk1
      clear hFc hk1 hz1 hvm hB ht
      refine lv_istore (lv' := [(6, .int r_12), (4, .long x_5), (2, .long x_5), (0, .ref h), (1, .int v1)]) hx hb d_Model_eval_66 hl (by decide) rfl (fun ls hl => ?_)
      refine lv_aload_n hx hb d_Model_eval_68 rfl (lv_at hl 3 rfl) ?_
      refine va_get (D := (dC, dI)) (ci := 12) (v := .ref ((v 1))) (C := R_Model) (T := F_Model) (N := 127) hx hb htt iw_Model hown hK hP 0 yo_12 rfl 1 (Nat.le_of_ble_eq_true rfl) (htt _ lk_Model_67) (fun _ h9 => h9) yg_1 d_Model_eval_69 ?_
      refine lv_aload_n hx hb d_Model_eval_72 rfl (lv_at hl 3 rfl) ?_
      refine va_get (D := (dC, dI)) (ci := 12) (v := .ref ((v 3))) (C := R_Model) (T := F_Model) (N := 127) hx hb htt iw_Model hown hK hP 0 yo_12 rfl 3 (Nat.le_of_ble_eq_true rfl) (htt _ lk_Model_15) (fun _ h9 => h9) yg_3 d_Model_eval_73 ?_
      refine lv_iload hx hb d_Model_eval_76 (lv_at hl 0 rfl) ?_
      obtain ⟨h_13, hm⟩ := ck_some hm
      refine va_iald hx hb hK hP 3 0 ya_3 rfl h_13 d_Model_eval_78 ?_
      obtain ⟨h_14, hm⟩ := ck_some hm
      refine va_bald hx hb hK hP 1 2 ya_1 rfl h_14 d_Model_eval_79 ?_
      refine lv_topi (fun x_15 ex_15 => ?_)
      replace hm := ob1_at ex_15 hm
      refine lv_istore (lv' := [(7, .int x_15), (6, .int r_12), (4, .long x_5), (2, .long x_5), (0, .ref h), (1, .int v1)]) hx hb d_Model_eval_80 hl (by decide) rfl (fun ls hl => ?_)
      refine lv_aload_n hx hb d_Model_eval_82 rfl (lv_at hl 4 rfl) ?_
      refine va_get (D := (dC, dI)) (ci := 12) (v := .ref ((v 4))) (C := R_Model) (T := F_Model) (N := 127) hx hb htt iw_Model hown hK hP 0 yo_12 rfl 4 (Nat.le_of_ble_eq_true rfl) (htt _ lk_Model_22) (fun _ h9 => h9) yg_4 d_Model_eval_83 ?_
      refine lv_iload hx hb d_Model_eval_86 (lv_at hl 1 rfl) ?_
      obtain ⟨h_16, hm⟩ := ck_some hm
      refine va_iald hx hb hK hP 4 0 ya_4 rfl h_16 d_Model_eval_88 ?_
      refine lv_iconst (v := 1) hx hb d_Model_eval_89 (by decide) ?_
      refine lv_icmp_ne (tgt := 97) hx hb d_Model_eval_90 (by decide) (fun c_17 => ?_) (fun c_17 => ?_)
      · replace hm := if_f c_17 hm
        refine lv_iconst (v := 0) hx hb d_Model_eval_97 (by decide) ?_
        exact lb_Model_eval_98 d G l dC dI cI cJ cB adK adV adA h v n HG hx hb hml hown hts hK hE hA hr hlocks _ _ _ _ _ _ _ _ hm _ _ _ hP hD hS (lv_sub hl [4, 5, 1, 0] rfl)
      · replace hm := if_t c_17 hm
        refine lv_iconst (v := 1) hx hb d_Model_eval_93 (by decide) ?_
        refine lv_goto (tgt := 98) hx hb d_Model_eval_94 (by decide) ?_
        exact lb_Model_eval_98 d G l dC dI cI cJ cB adK adV adA h v n HG hx hb hml hown hts hK hE hA hr hlocks _ _ _ _ _ _ _ _ hm _ _ _ hP hD hS (lv_sub hl [4, 5, 1, 0] rfl)
  · replace hm := if_f c_2 hm
    refine lv_aload_n hx hb d_Model_eval_16 rfl (lv_at hl 0 rfl) ?_
    refine lv_iconst (v := 4) hx hb d_Model_eval_17 (by decide) ?_
    obtain ⟨i_19, j_20, a_21, b_22, r_23, h_18, hm⟩ := om_some hm
    have hFc := x_free hD hS hA
    refine va_calll (va_runV (As := [.int 4]) (rest := []) ⟨hx, hb, hml, hown, hts⟩ (x_Model_fails l dC dI cI cJ cB adK adV adA h v s.heap.size n h_18) (cwV 1 hts (tw_GV tw_cons cw_Model_fails lk_Model_596 in_Model_fails sel_Model_fails ini_Model) rfl rfl rfl ⟨rfl, hd_Model_fails⟩ (gR_fit (d + 1) (Nat.le_of_ble_eq_true rfl) (Nat.le_of_ble_eq_true rfl))) (ypV hK hP hD hS hE hFc yo_12 rfl) rfl rfl hl.1 rfl (lv_room (Nat.le_of_ble_eq_true rfl)) d_Model_eval_18 ⟨Nat.le_of_ble_eq_true rfl, Nat.le_of_ble_eq_true rfl⟩) hS (fun q _ h => hFc q h) hFc (fun r9 u9 t9 H locs ht hvm e9 hB hz1 hk1 hS => ?_)
    have e9 : r_23 = r9 := e9
    subst e9
    obtain ⟨hP, hD⟩ := y_aft hB ht hFc
    clear hFc hk1 hz1 hvm hB ht
    obtain ⟨e1i, e1j, e1a, e1b, e3⟩ := re4m hm
    obtain ⟨hP, hD⟩ := y_eq e1i e1j e1a e1b hP hD
    exact W.lret hx hb hr (fun t9 ht hW => ⟨⟨_, (), rfl, e3.symm, by rw [ht]; exact hP, hD⟩, hS.F ht⟩) hS.2.2 d_Model_eval_21

def m_Model_called_b198 (n : Nat) (G : GB) (i : Nat → Int32) (j : Nat → Int64) (a : Nat → Nat → Int32) (b : Nat → Nat → Int64) (v6 : Int32) (v7 : Int32) (v8 : Int32) (v9 : Int32) (v13 : Int64) : Option ((Nat → Int32) × (Nat → Int64) × (Nat → Nat → Int32) × (Nat → Nat → Int64) × Int64) := ob1 (upd i 102 0 : Nat → Int32) (fun i_1 => ob1 (upd i_1 98 v6 : Nat → Int32) (fun i_2 => ob1 (upd i_2 97 v7 : Nat → Int32) (fun i_3 => ob1 (upd i_3 116 v8 : Nat → Int32) (fun i_4 => ob1 (upd i_4 117 v9 : Nat → Int32) (fun i_5 => some (i_5, j, a, b, v13))))))
set_option maxHeartbeats 4000000 in
set_option maxRecDepth 100000 in
theorem lb_Model_called_198 (d : Nat) (G : GB) (l : Launch) (dC : Nat → ClassId) (dI : Nat → Nat → Nat) (cI cJ cB : ClassId) (adK adV adA : Nat → Nat) (h : Nat) (v : Nat → Nat) (n : Nat) (HG : GH l dC dI cI cJ cB adK adV adA h v n G d) {p : Program} {e : Env} {s : State} {m : MethodId} {args : Array Value} {below : List Frame} {meth : Method} {c : Code} {A : Nat → Prop} (hx : p.tables.exec = Jvm.exec) (hb : c.code = b_Model_called) (hml : c.maxLocals = 15) (hown : s.vm.findClass R_Model = some m.cls) (hts : ∀ w ∈ w_Model_called, w.before args s = true) (hK : va_K (dC, dI) classes [(cI, .int), (cJ, .long), (cB, .byte)] s) (hE : tw_E adK adV adA A s s.heap) (hA : ∀ q : Nat, s.heap.size ≤ q → A q) (hr : meth.sig.returnType = (some .long)) (hlocks : meth.locks = false) {i2 : Nat → Int32} {j2 : Nat → Int64} {a2 : Nat → Nat → Int32} {b2 : Nat → Nat → Int64} {r2 : Int64} (i : Nat → Int32) (j : Nat → Int64) (a : Nat → Nat → Int32) (b : Nat → Nat → Int64) (v6 : Int32) (v7 : Int32) (v8 : Int32) (v9 : Int32) (v13 : Int64) (hm : m_Model_called_b198 n G i j a b v6 v7 v8 v9 v13 = some (i2, j2, a2, b2, r2)) : ∀ (H : Heap) (locs : List Loc) (ls : Array Slot), va_P (dC, dI) classes (MW cI cJ cB h v i j a b) H → va_D A (MW cI cJ cB h v i j a b) → va_S A s.heap H locs → lv_has ls 15 [(0, .ref h), (6, .int v6), (7, .int v7), (8, .int v8), (9, .int v9), (13, .long v13)] → W p l e (gR (d + 1)) s m args below meth c H locs 0 0 (MQ below (va_Ql (xR r2) (yB dC dI cI cJ cB h v i2 j2 a2 b2 A) A) args s 0 0 A) (F0 m 198 ls []) := by
  have htt : ∀ w ∈ tw_T, w.before _ s = true := fun w h => hts w (List.mem_cons_of_mem _ h)
  intro H locs ls hP hD hS hl
  rw [m_Model_called_b198] at hm
  refine lv_aload_n hx hb d_Model_called_198 rfl (lv_at hl 0 rfl) ?_
  refine lv_iconst (v := 0) hx hb d_Model_called_199 (by decide) ?_
  refine va_put (D := (dC, dI)) (ci := 12) (v := .int 0) (ty := .int) (C := R_Model) (T := F_Model) (N := 127) hx hb htt iw_Model t_Model t_Model_ok n_Model hown hK hP hD hS 0 yo_12 rfl 102 (Nat.le_of_ble_eq_true rfl) (htt _ lk_Model_559) (fun _ h9 => h9) rfl (by decide +kernel) rfl rfl yl_102 d_Model_called_200 (fun H locs hP hD hS => ?_)
  obtain ⟨i_1, ei_1⟩ : ∃ y9 : Nat → Int32, y9 = upd i 102 0 := ⟨_, rfl⟩
  replace hm := ob1_at ei_1 hm
  obtain ⟨hP, hD⟩ := yw_102 ei_1 hP hD
  refine lv_aload_n hx hb d_Model_called_203 rfl (lv_at hl 0 rfl) ?_
  refine lv_iload hx hb d_Model_called_204 (lv_at hl 1 rfl) ?_
  refine va_put (D := (dC, dI)) (ci := 12) (v := .int v6) (ty := .int) (C := R_Model) (T := F_Model) (N := 127) hx hb htt iw_Model t_Model t_Model_ok n_Model hown hK hP hD hS 0 yo_12 rfl 98 (Nat.le_of_ble_eq_true rfl) (htt _ lk_Model_535) (fun _ h9 => h9) rfl (by decide +kernel) rfl rfl yl_98 d_Model_called_206 (fun H locs hP hD hS => ?_)
  obtain ⟨i_2, ei_2⟩ : ∃ y9 : Nat → Int32, y9 = upd i_1 98 v6 := ⟨_, rfl⟩
  replace hm := ob1_at ei_2 hm
  obtain ⟨hP, hD⟩ := yw_98 ei_2 hP hD
  refine lv_aload_n hx hb d_Model_called_209 rfl (lv_at hl 0 rfl) ?_
  refine lv_iload hx hb d_Model_called_210 (lv_at hl 2 rfl) ?_
  refine va_put (D := (dC, dI)) (ci := 12) (v := .int v7) (ty := .int) (C := R_Model) (T := F_Model) (N := 127) hx hb htt iw_Model t_Model t_Model_ok n_Model hown hK hP hD hS 0 yo_12 rfl 97 (Nat.le_of_ble_eq_true rfl) (htt _ lk_Model_532) (fun _ h9 => h9) rfl (by decide +kernel) rfl rfl yl_97 d_Model_called_212 (fun H locs hP hD hS => ?_)
  obtain ⟨i_3, ei_3⟩ : ∃ y9 : Nat → Int32, y9 = upd i_2 97 v7 := ⟨_, rfl⟩
  replace hm := ob1_at ei_3 hm
  obtain ⟨hP, hD⟩ := yw_97 ei_3 hP hD
  refine lv_aload_n hx hb d_Model_called_215 rfl (lv_at hl 0 rfl) ?_
  refine lv_iload hx hb d_Model_called_216 (lv_at hl 3 rfl) ?_
  refine va_put (D := (dC, dI)) (ci := 12) (v := .int v8) (ty := .int) (C := R_Model) (T := F_Model) (N := 127) hx hb htt iw_Model t_Model t_Model_ok n_Model hown hK hP hD hS 0 yo_12 rfl 116 (Nat.le_of_ble_eq_true rfl) (htt _ lk_Model_565) (fun _ h9 => h9) rfl (by decide +kernel) rfl rfl yl_116 d_Model_called_218 (fun H locs hP hD hS => ?_)
  obtain ⟨i_4, ei_4⟩ : ∃ y9 : Nat → Int32, y9 = upd i_3 116 v8 := ⟨_, rfl⟩
  replace hm := ob1_at ei_4 hm
  obtain ⟨hP, hD⟩ := yw_116 ei_4 hP hD
  refine lv_aload_n hx hb d_Model_called_221 rfl (lv_at hl 0 rfl) ?_
  refine lv_iload hx hb d_Model_called_222 (lv_at hl 4 rfl) ?_
  refine va_put (D := (dC, dI)) (ci := 12) (v := .int v9) (ty := .int) (C := R_Model) (T := F_Model) (N := 127) hx hb htt iw_Model t_Model t_Model_ok n_Model hown hK hP hD hS 0 yo_12 rfl 117 (Nat.le_of_ble_eq_true rfl) (htt _ lk_Model_568) (fun _ h9 => h9) rfl (by decide +kernel) rfl rfl yl_117 d_Model_called_224 (fun H locs hP hD hS => ?_)
  obtain ⟨i_5, ei_5⟩ : ∃ y9 : Nat → Int32, y9 = upd i_4 117 v9 := ⟨_, rfl⟩
  replace hm := ob1_at ei_5 hm
  obtain ⟨hP, hD⟩ := yw_117 ei_5 hP hD
  refine lv_lload hx hb d_Model_called_227 (lv_at hl 5 rfl) ?_
  obtain ⟨e1i, e1j, e1a, e1b, e3⟩ := re4m hm
  obtain ⟨hP, hD⟩ := y_eq e1i e1j e1a e1b hP hD
  exact W.lret hx hb hr (fun t9 ht hW => ⟨⟨_, (), rfl, e3.symm, by rw [ht]; exact hP, hD⟩, hS.F ht⟩) hS.2.2 d_Model_called_229
def m_Model_called_b180 (n : Nat) (G : GB) (i : Nat → Int32) (j : Nat → Int64) (a : Nat → Nat → Int32) (b : Nat → Nat → Int64) (v6 : Int32) (v7 : Int32) (v8 : Int32) (v9 : Int32) (s0 : Int64) : Option ((Nat → Int32) × (Nat → Int64) × (Nat → Nat → Int32) × (Nat → Nat → Int64) × Int64) := if ((i 102)) = ((4 : Int32)) then m_Model_called_b198 n G i j a b v6 v7 v8 v9 s0 else if ((i 102)) = ((5 : Int32)) then m_Model_called_b198 n G i j a b v6 v7 v8 v9 s0 else some (i, j, a, b, s0)
set_option maxHeartbeats 4000000 in
set_option maxRecDepth 100000 in
theorem lb_Model_called_180 (d : Nat) (G : GB) (l : Launch) (dC : Nat → ClassId) (dI : Nat → Nat → Nat) (cI cJ cB : ClassId) (adK adV adA : Nat → Nat) (h : Nat) (v : Nat → Nat) (n : Nat) (HG : GH l dC dI cI cJ cB adK adV adA h v n G d) {p : Program} {e : Env} {s : State} {m : MethodId} {args : Array Value} {below : List Frame} {meth : Method} {c : Code} {A : Nat → Prop} (hx : p.tables.exec = Jvm.exec) (hb : c.code = b_Model_called) (hml : c.maxLocals = 15) (hown : s.vm.findClass R_Model = some m.cls) (hts : ∀ w ∈ w_Model_called, w.before args s = true) (hK : va_K (dC, dI) classes [(cI, .int), (cJ, .long), (cB, .byte)] s) (hE : tw_E adK adV adA A s s.heap) (hA : ∀ q : Nat, s.heap.size ≤ q → A q) (hr : meth.sig.returnType = (some .long)) (hlocks : meth.locks = false) {i2 : Nat → Int32} {j2 : Nat → Int64} {a2 : Nat → Nat → Int32} {b2 : Nat → Nat → Int64} {r2 : Int64} (i : Nat → Int32) (j : Nat → Int64) (a : Nat → Nat → Int32) (b : Nat → Nat → Int64) (v6 : Int32) (v7 : Int32) (v8 : Int32) (v9 : Int32) (s0 : Int64) (hm : m_Model_called_b180 n G i j a b v6 v7 v8 v9 s0 = some (i2, j2, a2, b2, r2)) : ∀ (H : Heap) (locs : List Loc) (ls : Array Slot), va_P (dC, dI) classes (MW cI cJ cB h v i j a b) H → va_D A (MW cI cJ cB h v i j a b) → va_S A s.heap H locs → lv_has ls 15 [(0, .ref h), (6, .int v6), (7, .int v7), (8, .int v8), (9, .int v9)] → W p l e (gR (d + 1)) s m args below meth c H locs 0 0 (MQ below (va_Ql (xR r2) (yB dC dI cI cJ cB h v i2 j2 a2 b2 A) A) args s 0 0 A) (F0 m 180 ls [.long s0]) := by
  have htt : ∀ w ∈ tw_T, w.before _ s = true := fun w h => hts w (List.mem_cons_of_mem _ h)
  intro H locs ls hP hD hS hl
  rw [m_Model_called_b180] at hm
  refine lv_lstore (lv' := [(13, .long s0), (0, .ref h), (6, .int v6), (7, .int v7), (8, .int v8), (9, .int v9)]) hx hb d_Model_called_180 hl (by decide) rfl (fun ls hl => ?_)
  refine lv_aload_n hx hb d_Model_called_182 rfl (lv_at hl 1 rfl) ?_
  refine va_get (D := (dC, dI)) (ci := 12) (v := .int (i 102)) (C := R_Model) (T := F_Model) (N := 127) hx hb htt iw_Model hown hK hP 0 yo_12 rfl 102 (Nat.le_of_ble_eq_true rfl) (htt _ lk_Model_559) (fun _ h9 => h9) yg_102 d_Model_called_183 ?_
  refine lv_iconst (v := 4) hx hb d_Model_called_186 (by decide) ?_
  refine lv_icmp_eq (tgt := 198) hx hb d_Model_called_187 (by decide) (fun c_1 => ?_) (fun c_1 => ?_)
  · replace hm := if_t c_1 hm
    exact lb_Model_called_198 d G l dC dI cI cJ cB adK adV adA h v n HG hx hb hml hown hts hK hE hA hr hlocks _ _ _ _ _ _ _ _ _ hm _ _ _ hP hD hS (lv_sub hl [1, 2, 3, 4, 5, 0] rfl)
  · replace hm := if_f c_1 hm
    refine lv_aload_n hx hb d_Model_called_190 rfl (lv_at hl 1 rfl) ?_
    refine va_get (D := (dC, dI)) (ci := 12) (v := .int (i 102)) (C := R_Model) (T := F_Model) (N := 127) hx hb htt iw_Model hown hK hP 0 yo_12 rfl 102 (Nat.le_of_ble_eq_true rfl) (htt _ lk_Model_559) (fun _ h9 => h9) yg_102 d_Model_called_191 ?_
    refine lv_iconst (v := 5) hx hb d_Model_called_194 (by decide) ?_
    refine lv_icmp_ne (tgt := 227) hx hb d_Model_called_195 (by decide) (fun c_2 => ?_) (fun c_2 => ?_)
    · replace hm := if_f c_2 hm
      refine lv_lload hx hb d_Model_called_227 (lv_at hl 0 rfl) ?_
      obtain ⟨e1i, e1j, e1a, e1b, e3⟩ := re4m hm
      obtain ⟨hP, hD⟩ := y_eq e1i e1j e1a e1b hP hD
      exact W.lret hx hb hr (fun t9 ht hW => ⟨⟨_, (), rfl, e3.symm, by rw [ht]; exact hP, hD⟩, hS.F ht⟩) hS.2.2 d_Model_called_229
    · replace hm := if_t c_2 hm
      exact lb_Model_called_198 d G l dC dI cI cJ cB adK adV adA h v n HG hx hb hml hown hts hK hE hA hr hlocks _ _ _ _ _ _ _ _ _ hm _ _ _ hP hD hS (lv_sub hl [1, 2, 3, 4, 5, 0] rfl)
def m_Model_called_b60 (n : Nat) (G : GB) : Nat → (Nat → Int32) → (Nat → Int64) → (Nat → Nat → Int32) → (Nat → Nat → Int64) → Int32 → Int32 → Int64 → Int32 → Int32 → Int32 → Int32 → Int32 → Int32 → Option ((Nat → Int32) × (Nat → Int64) × (Nat → Nat → Int32) × (Nat → Nat → Int64) × Int64)
  | 0, _, _, _, _, _, _, _, _, _, _, _, _, _ => none
  | f + 1, i, j, a, b, v2, v3, v4, v6, v7, v8, v9, v10, v11 => if v3 ≤ v11 then ob1 ((i 99) + 1 : Int32) (fun x_2 => ob1 (upd i 99 x_2 : Nat → Int32) (fun i_3 => om (G.2.2.1 i_3 j a b v4 (0 : Int32)) (fun i_5 j_6 a_7 b_8 r_9 => if ((i_5 102)) = ((1 : Int32)) then some (i_5, j_6, a_7, b_8, 3) else ob1 ((i_5 99) - 1 : Int32) (fun x_11 => ob1 (upd i_5 99 x_11 : Nat → Int32) (fun i_12 => if ((i_12 102)) = ((5 : Int32)) then m_Model_called_b180 n G i_12 j_6 a_7 b_8 v6 v7 v8 v9 (j_6 110) else m_Model_called_b180 n G i_12 j_6 a_7 b_8 v6 v7 v8 v9 (3 : Int64)))))) else ck ((v2 + v11)) 36000 (ob0 (m_Model_what n (b 111 (v2 + v11).toNatClampNeg)) (fun r_16 => ck (((12 * v10) + v11)) 1800 (ob1 (sv a 114 ((12 * v10) + v11).toNatClampNeg r_16 : Nat → Nat → Int32) (fun a_18 => ck (((v2 + v3) + v11)) 36000 (ck (((12 * v10) + v11)) 1800 (ob1 (svl b 115 ((12 * v10) + v11).toNatClampNeg (b 111 ((v2 + v3) + v11).toNatClampNeg) : Nat → Nat → Int64) (fun b_21 => ob1 (v11 + 1 : Int32) (fun x_22 => m_Model_called_b60 n G f i j a_18 b_21 v2 v3 v4 v6 v7 v8 v9 v10 x_22))))))))
set_option maxHeartbeats 4000000 in
set_option maxRecDepth 100000 in
theorem lb_Model_called_60 (d : Nat) (G : GB) (l : Launch) (dC : Nat → ClassId) (dI : Nat → Nat → Nat) (cI cJ cB : ClassId) (adK adV adA : Nat → Nat) (h : Nat) (v : Nat → Nat) (n : Nat) (HG : GH l dC dI cI cJ cB adK adV adA h v n G d) {p : Program} {e : Env} {s : State} {m : MethodId} {args : Array Value} {below : List Frame} {meth : Method} {c : Code} {A : Nat → Prop} (hx : p.tables.exec = Jvm.exec) (hb : c.code = b_Model_called) (hml : c.maxLocals = 15) (hown : s.vm.findClass R_Model = some m.cls) (hts : ∀ w ∈ w_Model_called, w.before args s = true) (hK : va_K (dC, dI) classes [(cI, .int), (cJ, .long), (cB, .byte)] s) (hE : tw_E adK adV adA A s s.heap) (hA : ∀ q : Nat, s.heap.size ≤ q → A q) (hr : meth.sig.returnType = (some .long)) (hlocks : meth.locks = false) {i2 : Nat → Int32} {j2 : Nat → Int64} {a2 : Nat → Nat → Int32} {b2 : Nat → Nat → Int64} {r2 : Int64} : ∀ (f : Nat) (i : Nat → Int32) (j : Nat → Int64) (a : Nat → Nat → Int32) (b : Nat → Nat → Int64) (v2 : Int32) (v3 : Int32) (v4 : Int64) (v6 : Int32) (v7 : Int32) (v8 : Int32) (v9 : Int32) (v10 : Int32) (v11 : Int32), m_Model_called_b60 n G f i j a b v2 v3 v4 v6 v7 v8 v9 v10 v11 = some (i2, j2, a2, b2, r2) → ∀ (H : Heap) (locs : List Loc) (ls : Array Slot), va_P (dC, dI) classes (MW cI cJ cB h v i j a b) H → va_D A (MW cI cJ cB h v i j a b) → va_S A s.heap H locs → lv_has ls 15 [(0, .ref h), (2, .int v2), (3, .int v3), (4, .long v4), (6, .int v6), (7, .int v7), (8, .int v8), (9, .int v9), (10, .int v10), (11, .int v11)] → W p l e (gR (d + 1)) s m args below meth c H locs 0 0 (MQ below (va_Ql (xR r2) (yB dC dI cI cJ cB h v i2 j2 a2 b2 A) A) args s 0 0 A) (F0 m 60 ls []) := by
  have htt : ∀ w ∈ tw_T, w.before _ s = true := fun w h => hts w (List.mem_cons_of_mem _ h)
  intro f
  induction f with
  | zero =>
    intro i j a b v2 v3 v4 v6 v7 v8 v9 v10 v11 hm
    rw [m_Model_called_b60] at hm
    cases hm
  | succ f ih =>
    intro i j a b v2 v3 v4 v6 v7 v8 v9 v10 v11 hm H locs ls hP hD hS hl
    rw [m_Model_called_b60] at hm
    refine lv_iload hx hb d_Model_called_60 (lv_at hl 9 rfl) ?_
    refine lv_iload_n hx hb d_Model_called_62 rfl (lv_at hl 2 rfl) ?_
    refine lv_icmp_ge (tgt := 121) hx hb d_Model_called_63 (by decide) (fun c_1 => ?_) (fun c_1 => ?_)
    · replace hm := if_t c_1 hm
      refine lv_aload_n hx hb d_Model_called_121 rfl (lv_at hl 0 rfl) ?_
      refine lv_dup hx hb d_Model_called_122 rfl ?_
      refine va_get (D := (dC, dI)) (ci := 12) (v := .int (i 99)) (C := R_Model) (T := F_Model) (N := 127) hx hb htt iw_Model hown hK hP 0 yo_12 rfl 99 (Nat.le_of_ble_eq_true rfl) (htt _ lk_Model_538) (fun _ h9 => h9) yg_99 d_Model_called_123 ?_
      refine lv_iconst (v := 1) hx hb d_Model_called_126 (by decide) ?_
      refine lv_iadd hx hb d_Model_called_127 ?_
      refine lv_topi (fun x_2 ex_2 => ?_)
      replace hm := ob1_at ex_2 hm
      refine va_put (D := (dC, dI)) (ci := 12) (v := .int x_2) (ty := .int) (C := R_Model) (T := F_Model) (N := 127) hx hb htt iw_Model t_Model t_Model_ok n_Model hown hK hP hD hS 0 yo_12 rfl 99 (Nat.le_of_ble_eq_true rfl) (htt _ lk_Model_538) (fun _ h9 => h9) rfl (by decide +kernel) rfl rfl yl_99 d_Model_called_128 (fun H locs hP hD hS => ?_)
      obtain ⟨i_3, ei_3⟩ : ∃ y9 : Nat → Int32, y9 = upd i 99 x_2 := ⟨_, rfl⟩
      replace hm := ob1_at ei_3 hm
      obtain ⟨hP, hD⟩ := yw_99 ei_3 hP hD
      refine lv_aload_n hx hb d_Model_called_131 rfl (lv_at hl 0 rfl) ?_
      refine lv_lload hx hb d_Model_called_132 (lv_at hl 3 rfl) ?_
      refine lv_iconst (v := 0) hx hb d_Model_called_134 (by decide) ?_
      obtain ⟨i_5, j_6, a_7, b_8, r_9, h_4, hm⟩ := om_some hm
      have hFc := x_free hD hS hA
      refine va_calll (va_runV (As := [.long v4, .int 0]) (rest := []) ⟨hx, hb, hml, hown, hts⟩ (HG.2.2.1 H.size _ _ _ _ _ _ _ _ _ _ _ h_4) (cwV 2 hts (tw_GV tw_cons cw_Model_ran lk_Model_649 in_Model_ran sel_Model_ran ini_Model) rfl rfl rfl ⟨rfl, hd_Model_ran⟩ (gR_up (by decide))) (ypV hK hP hD hS hE hFc yo_12 rfl) rfl rfl hl.1 rfl (lv_room (Nat.le_of_ble_eq_true rfl)) d_Model_called_135 ⟨Nat.le_of_ble_eq_true rfl, Nat.le_of_ble_eq_true rfl⟩) hS (fun q _ h => hFc q h) hFc (fun r9 u9 t9 H locs ht hvm e9 hB hz1 hk1 hS => ?_)
      have e9 : r_9 = r9 := e9
      subst e9
      obtain ⟨hP, hD⟩ := y_aft hB ht hFc
      clear hFc hk1 hz1 hvm hB ht
      refine lv_lstore (lv' := [(11, .long r_9), (0, .ref h), (2, .int v2), (3, .int v3), (4, .long v4), (6, .int v6), (7, .int v7), (8, .int v8), (9, .int v9), (10, .int v10)]) hx hb d_Model_called_138 hl (by decide) rfl (fun ls hl => ?_)
      refine lv_aload_n hx hb d_Model_called_140 rfl (lv_at hl 1 rfl) ?_
      refine va_get (D := (dC, dI)) (ci := 12) (v := .int (i_5 102)) (C := R_Model) (T := F_Model) (N := 127) hx hb htt iw_Model hown hK hP 0 yo_12 rfl 102 (Nat.le_of_ble_eq_true rfl) (htt _ lk_Model_559) (fun _ h9 => h9) yg_102 d_Model_called_141 ?_
      refine lv_iconst (v := 1) hx hb d_Model_called_144 (by decide) ?_
      refine lv_icmp_ne (tgt := 152) hx hb d_Model_called_145 (by decide) (fun c_10 => ?_) (fun c_10 => ?_)
      · replace hm := if_f c_10 hm
        refine lv_aload_n hx hb d_Model_called_152 rfl (lv_at hl 1 rfl) ?_
        refine lv_dup hx hb d_Model_called_153 rfl ?_
        refine va_get (D := (dC, dI)) (ci := 12) (v := .int (i_5 99)) (C := R_Model) (T := F_Model) (N := 127) hx hb htt iw_Model hown hK hP 0 yo_12 rfl 99 (Nat.le_of_ble_eq_true rfl) (htt _ lk_Model_538) (fun _ h9 => h9) yg_99 d_Model_called_154 ?_
        refine lv_iconst (v := 1) hx hb d_Model_called_157 (by decide) ?_
        refine lv_isub hx hb d_Model_called_158 ?_
        refine lv_topi (fun x_11 ex_11 => ?_)
        replace hm := ob1_at ex_11 hm
        refine va_put (D := (dC, dI)) (ci := 12) (v := .int x_11) (ty := .int) (C := R_Model) (T := F_Model) (N := 127) hx hb htt iw_Model t_Model t_Model_ok n_Model hown hK hP hD hS 0 yo_12 rfl 99 (Nat.le_of_ble_eq_true rfl) (htt _ lk_Model_538) (fun _ h9 => h9) rfl (by decide +kernel) rfl rfl yl_99 d_Model_called_159 (fun H locs hP hD hS => ?_)
        obtain ⟨i_12, ei_12⟩ : ∃ y9 : Nat → Int32, y9 = upd i_5 99 x_11 := ⟨_, rfl⟩
        replace hm := ob1_at ei_12 hm
        obtain ⟨hP, hD⟩ := yw_99 ei_12 hP hD
        refine lv_aload_n hx hb d_Model_called_162 rfl (lv_at hl 1 rfl) ?_
        refine va_get (D := (dC, dI)) (ci := 12) (v := .int (i_12 102)) (C := R_Model) (T := F_Model) (N := 127) hx hb htt iw_Model hown hK hP 0 yo_12 rfl 102 (Nat.le_of_ble_eq_true rfl) (htt _ lk_Model_559) (fun _ h9 => h9) yg_102 d_Model_called_163 ?_
        refine lv_iconst (v := 5) hx hb d_Model_called_166 (by decide) ?_
        refine lv_icmp_ne (tgt := 177) hx hb d_Model_called_167 (by decide) (fun c_13 => ?_) (fun c_13 => ?_)
        · replace hm := if_f c_13 hm
          refine lv_ldc2 (v := 3) hx hb hown (htt _ lk_Model_7) d_Model_called_177 ?_
          exact lb_Model_called_180 d G l dC dI cI cJ cB adK adV adA h v n HG hx hb hml hown hts hK hE hA hr hlocks _ _ _ _ _ _ _ _ _ hm _ _ _ hP hD hS (lv_sub hl [1, 5, 6, 7, 8] rfl)
        · replace hm := if_t c_13 hm
          refine lv_aload_n hx hb d_Model_called_170 rfl (lv_at hl 1 rfl) ?_
          refine va_get (D := (dC, dI)) (ci := 12) (v := .long (j_6 110)) (C := R_Model) (T := F_Model) (N := 127) hx hb htt iw_Model hown hK hP 0 yo_12 rfl 110 (Nat.le_of_ble_eq_true rfl) (htt _ lk_Model_652) (fun _ h9 => h9) yg_110 d_Model_called_171 ?_
          refine lv_goto (tgt := 180) hx hb d_Model_called_174 (by decide) ?_
          exact lb_Model_called_180 d G l dC dI cI cJ cB adK adV adA h v n HG hx hb hml hown hts hK hE hA hr hlocks _ _ _ _ _ _ _ _ _ hm _ _ _ hP hD hS (lv_sub hl [1, 5, 6, 7, 8] rfl)
      · replace hm := if_t c_10 hm
        refine lv_ldc2 (v := 3) hx hb hown (htt _ lk_Model_7) d_Model_called_148 ?_
        obtain ⟨e1i, e1j, e1a, e1b, e3⟩ := re4m hm
        obtain ⟨hP, hD⟩ := y_eq e1i e1j e1a e1b hP hD
        exact W.lret hx hb hr (fun t9 ht hW => ⟨⟨_, (), rfl, e3.symm, by rw [ht]; exact hP, hD⟩, hS.F ht⟩) hS.2.2 d_Model_called_151
    · replace hm := if_f c_1 hm
      refine lv_aload_n hx hb d_Model_called_66 rfl (lv_at hl 0 rfl) ?_
      refine va_get (D := (dC, dI)) (ci := 12) (v := .ref ((v 114))) (C := R_Model) (T := F_Model) (N := 127) hx hb htt iw_Model hown hK hP 0 yo_12 rfl 114 (Nat.le_of_ble_eq_true rfl) (htt _ lk_Model_310) (fun _ h9 => h9) yg_114 d_Model_called_67 ?_
      refine lv_bipush (v := 12) hx hb d_Model_called_70 (by decide) ?_
      refine lv_iload hx hb d_Model_called_72 (lv_at hl 8 rfl) ?_
      refine lv_imul hx hb d_Model_called_74 ?_
      refine lv_iload hx hb d_Model_called_75 (lv_at hl 9 rfl) ?_
      refine lv_iadd hx hb d_Model_called_77 ?_
      refine lv_aload_n hx hb d_Model_called_78 rfl (lv_at hl 0 rfl) ?_
      refine va_get (D := (dC, dI)) (ci := 12) (v := .ref ((v 111))) (C := R_Model) (T := F_Model) (N := 127) hx hb htt iw_Model hown hK hP 0 yo_12 rfl 111 (Nat.le_of_ble_eq_true rfl) (htt _ lk_Model_301) (fun _ h9 => h9) yg_111 d_Model_called_79 ?_
      refine lv_iload_n hx hb d_Model_called_82 rfl (lv_at hl 1 rfl) ?_
      refine lv_iload hx hb d_Model_called_83 (lv_at hl 9 rfl) ?_
      refine lv_iadd hx hb d_Model_called_85 ?_
      obtain ⟨h_14, hm⟩ := ck_some hm
      refine va_lald hx hb hK hP 61 1 ya_111 rfl h_14 d_Model_called_86 ?_
      obtain ⟨r_16, h_15, hm⟩ := ob0_some hm
      have hFc := x_free0 hS hA
      refine va_calli (va_runS (As := [.long (b 111 (v2 + v11).toNatClampNeg)]) (rest := [.int ((12 * v10) + v11), .ref ((v 114))]) ⟨hx, hb, hml, hown, hts⟩ (x_Model_what l H.size n h_15) (va_cwS 1 hts (tw_GS tw_cons cw_Model_what lk_Model_64 st_Model_what ini_Model) rfl rfl rfl hd_Model_what (gR_fit (d + 1) (Nat.le_of_ble_eq_true rfl) (Nat.le_of_ble_eq_true rfl))) xpS0 rfl rfl hl.1 rfl (lv_room (Nat.le_of_ble_eq_true rfl)) d_Model_called_87 ⟨Nat.le_of_ble_eq_true rfl, Nat.le_of_ble_eq_true rfl⟩) hS (fun q _ h => hFc q h) hFc (fun r9 u9 t9 H locs ht hvm e9 hB hz1 hk1 hS => ?_)
      have e9 : r_16 = r9 := e9
      subst e9
      replace hP := x_keep hP hk1
      clear hFc hk1 hz1 hvm hB ht
      obtain ⟨h_17, hm⟩ := ck_some hm
      refine va_iast hx hb hK hP hD hS 64 0 ya_114 rfl h_17 d_Model_called_90 (fun H locs hP hD hS => ?_)
      obtain ⟨a_18, ea_18⟩ : ∃ y9 : Nat → Nat → Int32, y9 = sv a 114 ((12 * v10) + v11).toNatClampNeg r_16 := ⟨_, rfl⟩
      replace hm := ob1_at ea_18 hm
      obtain ⟨hP, hD⟩ := yv_114 ea_18 hP hD
      refine lv_aload_n hx hb d_Model_called_91 rfl (lv_at hl 0 rfl) ?_
      refine va_get (D := (dC, dI)) (ci := 12) (v := .ref ((v 115))) (C := R_Model) (T := F_Model) (N := 127) hx hb htt iw_Model hown hK hP 0 yo_12 rfl 115 (Nat.le_of_ble_eq_true rfl) (htt _ lk_Model_313) (fun _ h9 => h9) yg_115 d_Model_called_92 ?_
      refine lv_bipush (v := 12) hx hb d_Model_called_95 (by decide) ?_
      refine lv_iload hx hb d_Model_called_97 (lv_at hl 8 rfl) ?_
      refine lv_imul hx hb d_Model_called_99 ?_
      refine lv_iload hx hb d_Model_called_100 (lv_at hl 9 rfl) ?_
      refine lv_iadd hx hb d_Model_called_102 ?_
      refine lv_aload_n hx hb d_Model_called_103 rfl (lv_at hl 0 rfl) ?_
      refine va_get (D := (dC, dI)) (ci := 12) (v := .ref ((v 111))) (C := R_Model) (T := F_Model) (N := 127) hx hb htt iw_Model hown hK hP 0 yo_12 rfl 111 (Nat.le_of_ble_eq_true rfl) (htt _ lk_Model_301) (fun _ h9 => h9) yg_111 d_Model_called_104 ?_
      refine lv_iload_n hx hb d_Model_called_107 rfl (lv_at hl 1 rfl) ?_
      refine lv_iload_n hx hb d_Model_called_108 rfl (lv_at hl 2 rfl) ?_
      refine lv_iadd hx hb d_Model_called_109 ?_
      refine lv_iload hx hb d_Model_called_110 (lv_at hl 9 rfl) ?_
      refine lv_iadd hx hb d_Model_called_112 ?_
      obtain ⟨h_19, hm⟩ := ck_some hm
      refine va_lald hx hb hK hP 61 1 ya_111 rfl h_19 d_Model_called_113 ?_
      obtain ⟨h_20, hm⟩ := ck_some hm
      refine va_last hx hb hK hP hD hS 65 1 ya_115 rfl h_20 d_Model_called_114 (fun H locs hP hD hS => ?_)
      obtain ⟨b_21, eb_21⟩ : ∃ y9 : Nat → Nat → Int64, y9 = svl b 115 ((12 * v10) + v11).toNatClampNeg (b 111 ((v2 + v3) + v11).toNatClampNeg) := ⟨_, rfl⟩
      replace hm := ob1_at eb_21 hm
      obtain ⟨hP, hD⟩ := yv_115 eb_21 hP hD
      obtain ⟨x_22, ex_22⟩ : ∃ y9 : Int32, y9 = v11 + 1 := ⟨_, rfl⟩
      replace hm := ob1_at ex_22 hm
      refine lv_iinc (v := x_22) (lv' := [(11, .int x_22), (0, .ref h), (2, .int v2), (3, .int v3), (4, .long v4), (6, .int v6), (7, .int v7), (8, .int v8), (9, .int v9), (10, .int v10)]) hx hb d_Model_called_115 hl (k := 9) rfl (by rw [ex_22]; rfl) (by decide) rfl (fun ls hl => ?_)
      refine lv_goto (tgt := 60) hx hb d_Model_called_118 (by decide) ?_
      exact ih _ _ _ _ _ _ _ _ _ _ _ _ _ hm _ _ _ hP hD hS (lv_sub hl [1, 2, 3, 4, 5, 6, 7, 8, 9, 0] rfl)
def m_Model_called (n : Nat) (G : GB) (i : Nat → Int32) (j : Nat → Int64) (a : Nat → Nat → Int32) (b : Nat → Nat → Int64) (v1 : Int32) (v2 : Int32) (v3 : Int32) (v4 : Int64) : Option ((Nat → Int32) × (Nat → Int64) × (Nat → Nat → Int32) × (Nat → Nat → Int64) × Int64) := om (m_Model_hasLevel n i j a b) (fun i_2 j_3 a_4 b_5 r_6 => if r_6 = ((0 : Int32)) then some (i_2, j_3, a_4, b_5, 3) else ob1 (i_2 98 : Int32) (fun x_8 => ob1 (i_2 97 : Int32) (fun x_9 => ob1 (i_2 116 : Int32) (fun x_10 => ob1 (i_2 117 : Int32) (fun x_11 => ob1 (i_2 99 : Int32) (fun x_12 => ck x_12 150 (ob1 (sv a_4 112 x_12.toNatClampNeg v1 : Nat → Nat → Int32) (fun a_14 => ck x_12 150 (ob1 (sv a_14 113 x_12.toNatClampNeg v3 : Nat → Nat → Int32) (fun a_16 => m_Model_called_b60 n G n i_2 j_3 a_16 b_5 v2 v3 v4 x_8 x_9 x_10 x_11 x_12 (0 : Int32)))))))))))
set_option maxHeartbeats 4000000 in
set_option maxRecDepth 100000 in
theorem x_Model_called (d : Nat) (G : GB) (l : Launch) (dC : Nat → ClassId) (dI : Nat → Nat → Nat) (cI cJ cB : ClassId) (adK adV adA : Nat → Nat) (h : Nat) (v : Nat → Nat) (sz : Nat) (n : Nat) (HG : GH l dC dI cI cJ cB adK adV adA h v n G d) {i : Nat → Int32} {j : Nat → Int64} {a : Nat → Nat → Int32} {b : Nat → Nat → Int64} {v1 : Int32} {v2 : Int32} {v3 : Int32} {v4 : Int64} {i2 : Nat → Int32} {j2 : Nat → Int64} {a2 : Nat → Nat → Int32} {b2 : Nat → Nat → Int64} {r2 : Int64} (hm : m_Model_called n G i j a b v1 v2 v3 v4 = some (i2, j2, a2, b2, r2)) : Met l y_Model_called w_Model_called (gR (d + 1)) (va_Pc [.ref h, .int v1, .int v2, .int v3, .long v4] (yE dC dI cI cJ cB adK adV adA h v i j a b sz)) (va_Ql (xR r2) (yB dC dI cI cJ cB h v i2 j2 a2 b2 (va_A (MW cI cJ cB h v i j a b) sz)) (va_A (MW cI cJ cB h v i j a b) sz)) 0 0 ((va_A (MW cI cJ cB h v i j a b) sz)) := by
  refine Met.ofW (cc := b_Model_called) (maxL := 15) (ret := (some .long)) (by decide) rfl ?_
  intro p e s m args below meth c s₁ B hml hv
  obtain ⟨rfl, hsz, hP, hK, hE, hD0⟩ := hv
  have hx := B.exec
  have hb := B.bytes
  have hr := B.returns
  have hts := atoms_spec (ws := w_Model_called) B.pre
  have htt : ∀ w ∈ tw_T, w.before _ s = true := fun w h => hts w (List.mem_cons_of_mem _ h)
  have hown : s.vm.findClass R_Model = some m.cls := findClass_of_methodNamed B.named
  have hlocks := B.notSynchronized
  subst hsz
  have hD := hD0.self (sz := s.heap.size)
  generalize hAe : (va_A (MW cI cJ cB h v i j a b) s.heap.size) = A at hD hE ⊢
  have hA : ∀ q : Nat, s.heap.size ≤ q → A q := fun q h => by rw [← hAe]; exact Or.inr h
  have hS : va_S A s.heap s.heap [] := va_S.rf
  have hl := lv_entry ([.ref h, .int v1, .int v2, .int v3, .long v4]) (n := 15) (Nat.le_of_ble_eq_true rfl)
  rw [lg_entry_eq]
  generalize (lg_sl ([.ref h, .int v1, .int v2, .int v3, .long v4]) ++ List.replicate (15 - (lg_sl ([.ref h, .int v1, .int v2, .int v3, .long v4])).length) Slot.unset).toArray = ls at hl ⊢
  have hl : lv_has ls 15 [(0, .ref h), (1, .int v1), (2, .int v2), (3, .int v3), (4, .long v4)] := hl
  rw [m_Model_called] at hm
  refine lv_aload_n hx hb d_Model_called_0 rfl (lv_at hl 0 rfl) ?_
  obtain ⟨i_2, j_3, a_4, b_5, r_6, h_1, hm⟩ := om_some hm
  have hFc := x_free hD hS hA
  refine va_calli (va_runV (As := []) (rest := []) ⟨hx, hb, hml, hown, hts⟩ (x_Model_hasLevel l dC dI cI cJ cB adK adV adA h v s.heap.size n h_1) (cwV 0 hts (tw_GV tw_cons cw_Model_hasLevel lk_Model_646 in_Model_hasLevel sel_Model_hasLevel ini_Model) rfl rfl rfl ⟨rfl, hd_Model_hasLevel⟩ (gR_fit (d + 1) (Nat.le_of_ble_eq_true rfl) (Nat.le_of_ble_eq_true rfl))) (ypV hK hP hD hS hE hFc yo_12 rfl) rfl rfl hl.1 rfl (lv_room (Nat.le_of_ble_eq_true rfl)) d_Model_called_1 ⟨Nat.le_of_ble_eq_true rfl, Nat.le_of_ble_eq_true rfl⟩) hS (fun q _ h => hFc q h) hFc (fun r9 u9 t9 H locs ht hvm e9 hB hz1 hk1 hS => ?_)
  have e9 : r_6 = r9 := e9
  subst e9
  obtain ⟨hP, hD⟩ := y_aft hB ht hFc
  clear hFc hk1 hz1 hvm hB ht
  refine lv_if_ne (tgt := 11) hx hb d_Model_called_4 (by decide) (fun c_7 => ?_) (fun c_7 => ?_)
  · replace hm := if_f c_7 hm
    refine lv_aload_n hx hb d_Model_called_11 rfl (lv_at hl 0 rfl) ?_
    refine va_get (D := (dC, dI)) (ci := 12) (v := .int (i_2 98)) (C := R_Model) (T := F_Model) (N := 127) hx hb htt iw_Model hown hK hP 0 yo_12 rfl 98 (Nat.le_of_ble_eq_true rfl) (htt _ lk_Model_535) (fun _ h9 => h9) yg_98 d_Model_called_12 ?_
    refine lv_topi (fun x_8 ex_8 => ?_)
    replace hm := ob1_at ex_8 hm
    refine lv_istore (lv' := [(6, .int x_8), (0, .ref h), (1, .int v1), (2, .int v2), (3, .int v3), (4, .long v4)]) hx hb d_Model_called_15 hl (by decide) rfl (fun ls hl => ?_)
    refine lv_aload_n hx hb d_Model_called_17 rfl (lv_at hl 1 rfl) ?_
    refine va_get (D := (dC, dI)) (ci := 12) (v := .int (i_2 97)) (C := R_Model) (T := F_Model) (N := 127) hx hb htt iw_Model hown hK hP 0 yo_12 rfl 97 (Nat.le_of_ble_eq_true rfl) (htt _ lk_Model_532) (fun _ h9 => h9) yg_97 d_Model_called_18 ?_
    refine lv_topi (fun x_9 ex_9 => ?_)
    replace hm := ob1_at ex_9 hm
    refine lv_istore (lv' := [(7, .int x_9), (6, .int x_8), (0, .ref h), (1, .int v1), (2, .int v2), (3, .int v3), (4, .long v4)]) hx hb d_Model_called_21 hl (by decide) rfl (fun ls hl => ?_)
    refine lv_aload_n hx hb d_Model_called_23 rfl (lv_at hl 2 rfl) ?_
    refine va_get (D := (dC, dI)) (ci := 12) (v := .int (i_2 116)) (C := R_Model) (T := F_Model) (N := 127) hx hb htt iw_Model hown hK hP 0 yo_12 rfl 116 (Nat.le_of_ble_eq_true rfl) (htt _ lk_Model_565) (fun _ h9 => h9) yg_116 d_Model_called_24 ?_
    refine lv_topi (fun x_10 ex_10 => ?_)
    replace hm := ob1_at ex_10 hm
    refine lv_istore (lv' := [(8, .int x_10), (7, .int x_9), (6, .int x_8), (0, .ref h), (1, .int v1), (2, .int v2), (3, .int v3), (4, .long v4)]) hx hb d_Model_called_27 hl (by decide) rfl (fun ls hl => ?_)
    refine lv_aload_n hx hb d_Model_called_29 rfl (lv_at hl 3 rfl) ?_
    refine va_get (D := (dC, dI)) (ci := 12) (v := .int (i_2 117)) (C := R_Model) (T := F_Model) (N := 127) hx hb htt iw_Model hown hK hP 0 yo_12 rfl 117 (Nat.le_of_ble_eq_true rfl) (htt _ lk_Model_568) (fun _ h9 => h9) yg_117 d_Model_called_30 ?_
    refine lv_topi (fun x_11 ex_11 => ?_)
    replace hm := ob1_at ex_11 hm
    refine lv_istore (lv' := [(9, .int x_11), (8, .int x_10), (7, .int x_9), (6, .int x_8), (0, .ref h), (1, .int v1), (2, .int v2), (3, .int v3), (4, .long v4)]) hx hb d_Model_called_33 hl (by decide) rfl (fun ls hl => ?_)
    refine lv_aload_n hx hb d_Model_called_35 rfl (lv_at hl 4 rfl) ?_
    refine va_get (D := (dC, dI)) (ci := 12) (v := .int (i_2 99)) (C := R_Model) (T := F_Model) (N := 127) hx hb htt iw_Model hown hK hP 0 yo_12 rfl 99 (Nat.le_of_ble_eq_true rfl) (htt _ lk_Model_538) (fun _ h9 => h9) yg_99 d_Model_called_36 ?_
    refine lv_topi (fun x_12 ex_12 => ?_)
    replace hm := ob1_at ex_12 hm
    refine lv_istore (lv' := [(10, .int x_12), (9, .int x_11), (8, .int x_10), (7, .int x_9), (6, .int x_8), (0, .ref h), (1, .int v1), (2, .int v2), (3, .int v3), (4, .long v4)]) hx hb d_Model_called_39 hl (by decide) rfl (fun ls hl => ?_)
    refine lv_aload_n hx hb d_Model_called_41 rfl (lv_at hl 5 rfl) ?_
    refine va_get (D := (dC, dI)) (ci := 12) (v := .ref ((v 112))) (C := R_Model) (T := F_Model) (N := 127) hx hb htt iw_Model hown hK hP 0 yo_12 rfl 112 (Nat.le_of_ble_eq_true rfl) (htt _ lk_Model_304) (fun _ h9 => h9) yg_112 d_Model_called_42 ?_
    refine lv_iload hx hb d_Model_called_45 (lv_at hl 0 rfl) ?_
    refine lv_iload_n hx hb d_Model_called_47 rfl (lv_at hl 6 rfl) ?_
    obtain ⟨h_13, hm⟩ := ck_some hm
    refine va_iast hx hb hK hP hD hS 62 0 ya_112 rfl h_13 d_Model_called_48 (fun H locs hP hD hS => ?_)
    obtain ⟨a_14, ea_14⟩ : ∃ y9 : Nat → Nat → Int32, y9 = sv a_4 112 x_12.toNatClampNeg v1 := ⟨_, rfl⟩
    replace hm := ob1_at ea_14 hm
    obtain ⟨hP, hD⟩ := yv_112 ea_14 hP hD
    refine lv_aload_n hx hb d_Model_called_49 rfl (lv_at hl 5 rfl) ?_
    refine va_get (D := (dC, dI)) (ci := 12) (v := .ref ((v 113))) (C := R_Model) (T := F_Model) (N := 127) hx hb htt iw_Model hown hK hP 0 yo_12 rfl 113 (Nat.le_of_ble_eq_true rfl) (htt _ lk_Model_307) (fun _ h9 => h9) yg_113 d_Model_called_50 ?_
    refine lv_iload hx hb d_Model_called_53 (lv_at hl 0 rfl) ?_
    refine lv_iload_n hx hb d_Model_called_55 rfl (lv_at hl 8 rfl) ?_
    obtain ⟨h_15, hm⟩ := ck_some hm
    refine va_iast hx hb hK hP hD hS 63 0 ya_113 rfl h_15 d_Model_called_56 (fun H locs hP hD hS => ?_)
    obtain ⟨a_16, ea_16⟩ : ∃ y9 : Nat → Nat → Int32, y9 = sv a_14 113 x_12.toNatClampNeg v3 := ⟨_, rfl⟩
    replace hm := ob1_at ea_16 hm
    obtain ⟨hP, hD⟩ := yv_113 ea_16 hP hD
    refine lv_iconst (v := 0) hx hb d_Model_called_57 (by decide) ?_
    refine lv_istore (lv' := [(11, .int 0), (10, .int x_12), (9, .int x_11), (8, .int x_10), (7, .int x_9), (6, .int x_8), (0, .ref h), (1, .int v1), (2, .int v2), (3, .int v3), (4, .long v4)]) hx hb d_Model_called_58 hl (by decide) rfl (fun ls hl => ?_)
    exact lb_Model_called_60 d G l dC dI cI cJ cB adK adV adA h v n HG hx hb hml hown hts hK hE hA hr hlocks n _ _ _ _ _ _ _ _ _ _ _ _ _ hm _ _ _ hP hD hS (lv_sub hl [6, 8, 9, 10, 5, 4, 3, 2, 1, 0] rfl)
  · replace hm := if_t c_7 hm
    refine lv_ldc2 (v := 3) hx hb hown (htt _ lk_Model_7) d_Model_called_7 ?_
    obtain ⟨e1i, e1j, e1a, e1b, e3⟩ := re4m hm
    obtain ⟨hP, hD⟩ := y_eq e1i e1j e1a e1b hP hD
    exact W.lret hx hb hr (fun t9 ht hW => ⟨⟨_, (), rfl, e3.symm, by rw [ht]; exact hP, hD⟩, hS.F ht⟩) hS.2.2 d_Model_called_10

def m_Model_ran (n : Nat) (G : GB) (i : Nat → Int32) (j : Nat → Int64) (a : Nat → Nat → Int32) (b : Nat → Nat → Int64) (v1 : Int64) (v3 : Int32) : Option ((Nat → Int32) × (Nat → Int64) × (Nat → Nat → Int32) × (Nat → Nat → Int64) × Int64) := ob1 ((i 97) + 1 : Int32) (fun x_1 => ob1 (upd i 97 x_1 : Nat → Int32) (fun i_2 => om (G.2.2.2.1 i_2 j a b v1 v3) (fun i_4 j_5 a_6 b_7 r_8 => if ((i_4 102)) = ((1 : Int32)) then ob1 ((i_4 97) - 0 : Int32) (fun x_12 => ob1 (upd i_4 97 x_12 : Nat → Int32) (fun i_13 => some (i_13, j_5, a_6, b_7, r_8))) else ob1 ((i_4 97) - 1 : Int32) (fun x_10 => ob1 (upd i_4 97 x_10 : Nat → Int32) (fun i_11 => some (i_11, j_5, a_6, b_7, r_8))))))
set_option maxHeartbeats 4000000 in
set_option maxRecDepth 100000 in
theorem x_Model_ran (d : Nat) (G : GB) (l : Launch) (dC : Nat → ClassId) (dI : Nat → Nat → Nat) (cI cJ cB : ClassId) (adK adV adA : Nat → Nat) (h : Nat) (v : Nat → Nat) (sz : Nat) (n : Nat) (HG : GH l dC dI cI cJ cB adK adV adA h v n G d) {i : Nat → Int32} {j : Nat → Int64} {a : Nat → Nat → Int32} {b : Nat → Nat → Int64} {v1 : Int64} {v3 : Int32} {i2 : Nat → Int32} {j2 : Nat → Int64} {a2 : Nat → Nat → Int32} {b2 : Nat → Nat → Int64} {r2 : Int64} (hm : m_Model_ran n G i j a b v1 v3 = some (i2, j2, a2, b2, r2)) : Met l y_Model_ran w_Model_ran (gR (d + 1)) (va_Pc [.ref h, .long v1, .int v3] (yE dC dI cI cJ cB adK adV adA h v i j a b sz)) (va_Ql (xR r2) (yB dC dI cI cJ cB h v i2 j2 a2 b2 (va_A (MW cI cJ cB h v i j a b) sz)) (va_A (MW cI cJ cB h v i j a b) sz)) 0 0 ((va_A (MW cI cJ cB h v i j a b) sz)) := by
  refine Met.ofW (cc := b_Model_ran) (maxL := 6) (ret := (some .long)) (by decide) rfl ?_
  intro p e s m args below meth c s₁ B hml hv
  obtain ⟨rfl, hsz, hP, hK, hE, hD0⟩ := hv
  have hx := B.exec
  have hb := B.bytes
  have hr := B.returns
  have hts := atoms_spec (ws := w_Model_ran) B.pre
  have htt : ∀ w ∈ tw_T, w.before _ s = true := fun w h => hts w (List.mem_cons_of_mem _ h)
  have hown : s.vm.findClass R_Model = some m.cls := findClass_of_methodNamed B.named
  have hlocks := B.notSynchronized
  subst hsz
  have hD := hD0.self (sz := s.heap.size)
  generalize hAe : (va_A (MW cI cJ cB h v i j a b) s.heap.size) = A at hD hE ⊢
  have hA : ∀ q : Nat, s.heap.size ≤ q → A q := fun q h => by rw [← hAe]; exact Or.inr h
  have hS : va_S A s.heap s.heap [] := va_S.rf
  have hl := lv_entry ([.ref h, .long v1, .int v3]) (n := 6) (Nat.le_of_ble_eq_true rfl)
  rw [lg_entry_eq]
  generalize (lg_sl ([.ref h, .long v1, .int v3]) ++ List.replicate (6 - (lg_sl ([.ref h, .long v1, .int v3])).length) Slot.unset).toArray = ls at hl ⊢
  have hl : lv_has ls 6 [(0, .ref h), (1, .long v1), (3, .int v3)] := hl
  rw [m_Model_ran] at hm
  refine lv_aload_n hx hb d_Model_ran_0 rfl (lv_at hl 0 rfl) ?_
  refine lv_dup hx hb d_Model_ran_1 rfl ?_
  refine va_get (D := (dC, dI)) (ci := 12) (v := .int (i 97)) (C := R_Model) (T := F_Model) (N := 127) hx hb htt iw_Model hown hK hP 0 yo_12 rfl 97 (Nat.le_of_ble_eq_true rfl) (htt _ lk_Model_532) (fun _ h9 => h9) yg_97 d_Model_ran_2 ?_
  refine lv_iconst (v := 1) hx hb d_Model_ran_5 (by decide) ?_
  refine lv_iadd hx hb d_Model_ran_6 ?_
  refine lv_topi (fun x_1 ex_1 => ?_)
  replace hm := ob1_at ex_1 hm
  refine va_put (D := (dC, dI)) (ci := 12) (v := .int x_1) (ty := .int) (C := R_Model) (T := F_Model) (N := 127) hx hb htt iw_Model t_Model t_Model_ok n_Model hown hK hP hD hS 0 yo_12 rfl 97 (Nat.le_of_ble_eq_true rfl) (htt _ lk_Model_532) (fun _ h9 => h9) rfl (by decide +kernel) rfl rfl yl_97 d_Model_ran_7 (fun H locs hP hD hS => ?_)
  obtain ⟨i_2, ei_2⟩ : ∃ y9 : Nat → Int32, y9 = upd i 97 x_1 := ⟨_, rfl⟩
  replace hm := ob1_at ei_2 hm
  obtain ⟨hP, hD⟩ := yw_97 ei_2 hP hD
  refine lv_aload_n hx hb d_Model_ran_10 rfl (lv_at hl 0 rfl) ?_
  refine lv_lload_n hx hb d_Model_ran_11 rfl (lv_at hl 1 rfl) ?_
  refine lv_iload_n hx hb d_Model_ran_12 rfl (lv_at hl 2 rfl) ?_
  obtain ⟨i_4, j_5, a_6, b_7, r_8, h_3, hm⟩ := om_some hm
  have hFc := x_free hD hS hA
  refine va_calll (va_runV (As := [.long v1, .int v3]) (rest := []) ⟨hx, hb, hml, hown, hts⟩ (HG.2.2.2.1 H.size _ _ _ _ _ _ _ _ _ _ _ h_3) (cwV 2 hts (tw_GV tw_cons cw_Model_runs lk_Model_642 in_Model_runs sel_Model_runs ini_Model) rfl rfl rfl ⟨rfl, hd_Model_runs⟩ (gR_up (by decide))) (ypV hK hP hD hS hE hFc yo_12 rfl) rfl rfl hl.1 rfl (lv_room (Nat.le_of_ble_eq_true rfl)) d_Model_ran_13 ⟨Nat.le_of_ble_eq_true rfl, Nat.le_of_ble_eq_true rfl⟩) hS (fun q _ h => hFc q h) hFc (fun r9 u9 t9 H locs ht hvm e9 hB hz1 hk1 hS => ?_)
  have e9 : r_8 = r9 := e9
  subst e9
  obtain ⟨hP, hD⟩ := y_aft hB ht hFc
  clear hFc hk1 hz1 hvm hB ht
  refine lv_lstore (lv' := [(4, .long r_8), (0, .ref h), (1, .long v1), (3, .int v3)]) hx hb d_Model_ran_16 hl (by decide) rfl (fun ls hl => ?_)
  refine lv_aload_n hx hb d_Model_ran_18 rfl (lv_at hl 1 rfl) ?_
  refine lv_dup hx hb d_Model_ran_19 rfl ?_
  refine va_get (D := (dC, dI)) (ci := 12) (v := .int (i_4 97)) (C := R_Model) (T := F_Model) (N := 127) hx hb htt iw_Model hown hK hP 0 yo_12 rfl 97 (Nat.le_of_ble_eq_true rfl) (htt _ lk_Model_532) (fun _ h9 => h9) yg_97 d_Model_ran_20 ?_
  refine lv_aload_n hx hb d_Model_ran_23 rfl (lv_at hl 1 rfl) ?_
  refine va_get (D := (dC, dI)) (ci := 12) (v := .int (i_4 102)) (C := R_Model) (T := F_Model) (N := 127) hx hb htt iw_Model hown hK hP 0 yo_12 rfl 102 (Nat.le_of_ble_eq_true rfl) (htt _ lk_Model_559) (fun _ h9 => h9) yg_102 d_Model_ran_24 ?_
  refine lv_iconst (v := 1) hx hb d_Model_ran_27 (by decide) ?_
  refine lv_icmp_ne (tgt := 35) hx hb d_Model_ran_28 (by decide) (fun c_9 => ?_) (fun c_9 => ?_)
  · replace hm := if_f c_9 hm
    refine lv_iconst (v := 1) hx hb d_Model_ran_35 (by decide) ?_
    refine lv_isub hx hb d_Model_ran_36 ?_
    refine lv_topi (fun x_10 ex_10 => ?_)
    replace hm := ob1_at ex_10 hm
    refine va_put (D := (dC, dI)) (ci := 12) (v := .int x_10) (ty := .int) (C := R_Model) (T := F_Model) (N := 127) hx hb htt iw_Model t_Model t_Model_ok n_Model hown hK hP hD hS 0 yo_12 rfl 97 (Nat.le_of_ble_eq_true rfl) (htt _ lk_Model_532) (fun _ h9 => h9) rfl (by decide +kernel) rfl rfl yl_97 d_Model_ran_37 (fun H locs hP hD hS => ?_)
    obtain ⟨i_11, ei_11⟩ : ∃ y9 : Nat → Int32, y9 = upd i_4 97 x_10 := ⟨_, rfl⟩
    replace hm := ob1_at ei_11 hm
    obtain ⟨hP, hD⟩ := yw_97 ei_11 hP hD
    refine lv_lload hx hb d_Model_ran_40 (lv_at hl 0 rfl) ?_
    obtain ⟨e1i, e1j, e1a, e1b, e3⟩ := re4m hm
    obtain ⟨hP, hD⟩ := y_eq e1i e1j e1a e1b hP hD
    exact W.lret hx hb hr (fun t9 ht hW => ⟨⟨_, (), rfl, e3.symm, by rw [ht]; exact hP, hD⟩, hS.F ht⟩) hS.2.2 d_Model_ran_42
  · replace hm := if_t c_9 hm
    refine lv_iconst (v := 0) hx hb d_Model_ran_31 (by decide) ?_
    refine lv_goto (tgt := 36) hx hb d_Model_ran_32 (by decide) ?_
    refine lv_isub hx hb d_Model_ran_36 ?_
    refine lv_topi (fun x_12 ex_12 => ?_)
    replace hm := ob1_at ex_12 hm
    refine va_put (D := (dC, dI)) (ci := 12) (v := .int x_12) (ty := .int) (C := R_Model) (T := F_Model) (N := 127) hx hb htt iw_Model t_Model t_Model_ok n_Model hown hK hP hD hS 0 yo_12 rfl 97 (Nat.le_of_ble_eq_true rfl) (htt _ lk_Model_532) (fun _ h9 => h9) rfl (by decide +kernel) rfl rfl yl_97 d_Model_ran_37 (fun H locs hP hD hS => ?_)
    obtain ⟨i_13, ei_13⟩ : ∃ y9 : Nat → Int32, y9 = upd i_4 97 x_12 := ⟨_, rfl⟩
    replace hm := ob1_at ei_13 hm
    obtain ⟨hP, hD⟩ := yw_97 ei_13 hP hD
    refine lv_lload hx hb d_Model_ran_40 (lv_at hl 0 rfl) ?_
    obtain ⟨e1i, e1j, e1a, e1b, e3⟩ := re4m hm
    obtain ⟨hP, hD⟩ := y_eq e1i e1j e1a e1b hP hD
    exact W.lret hx hb hr (fun t9 ht hW => ⟨⟨_, (), rfl, e3.symm, by rw [ht]; exact hP, hD⟩, hS.F ht⟩) hS.2.2 d_Model_ran_42

def m_Model_runs_b116 (n : Nat) (G : GB) (i : Nat → Int32) (j : Nat → Int64) (a : Nat → Nat → Int32) (b : Nat → Nat → Int64) (v4 : Int32) (v5 : Int32) (v6 : Int64) : Option ((Nat → Int32) × (Nat → Int64) × (Nat → Nat → Int32) × (Nat → Nat → Int64) × Int64) := if ((i 102)) = ((1 : Int32)) then some (i, j, a, b, 3) else ob1 (upd i 105 v4 : Nat → Int32) (fun i_2 => ob1 (upd i_2 106 v5 : Nat → Int32) (fun i_3 => if ((i_3 102)) = ((0 : Int32)) then some (i_3, j, a, b, v6) else some (i_3, j, a, b, 3)))
set_option maxHeartbeats 4000000 in
set_option maxRecDepth 100000 in
theorem lb_Model_runs_116 (d : Nat) (G : GB) (l : Launch) (dC : Nat → ClassId) (dI : Nat → Nat → Nat) (cI cJ cB : ClassId) (adK adV adA : Nat → Nat) (h : Nat) (v : Nat → Nat) (n : Nat) (HG : GH l dC dI cI cJ cB adK adV adA h v n G d) {p : Program} {e : Env} {s : State} {m : MethodId} {args : Array Value} {below : List Frame} {meth : Method} {c : Code} {A : Nat → Prop} (hx : p.tables.exec = Jvm.exec) (hb : c.code = b_Model_runs) (hml : c.maxLocals = 10) (hown : s.vm.findClass R_Model = some m.cls) (hts : ∀ w ∈ w_Model_runs, w.before args s = true) (hK : va_K (dC, dI) classes [(cI, .int), (cJ, .long), (cB, .byte)] s) (hE : tw_E adK adV adA A s s.heap) (hA : ∀ q : Nat, s.heap.size ≤ q → A q) (hr : meth.sig.returnType = (some .long)) (hlocks : meth.locks = false) {i2 : Nat → Int32} {j2 : Nat → Int64} {a2 : Nat → Nat → Int32} {b2 : Nat → Nat → Int64} {r2 : Int64} (i : Nat → Int32) (j : Nat → Int64) (a : Nat → Nat → Int32) (b : Nat → Nat → Int64) (v4 : Int32) (v5 : Int32) (v6 : Int64) (hm : m_Model_runs_b116 n G i j a b v4 v5 v6 = some (i2, j2, a2, b2, r2)) : ∀ (H : Heap) (locs : List Loc) (ls : Array Slot), va_P (dC, dI) classes (MW cI cJ cB h v i j a b) H → va_D A (MW cI cJ cB h v i j a b) → va_S A s.heap H locs → lv_has ls 10 [(0, .ref h), (4, .int v4), (5, .int v5), (6, .long v6)] → W p l e (gR (d + 1)) s m args below meth c H locs 0 0 (MQ below (va_Ql (xR r2) (yB dC dI cI cJ cB h v i2 j2 a2 b2 A) A) args s 0 0 A) (F0 m 116 ls []) := by
  have htt : ∀ w ∈ tw_T, w.before _ s = true := fun w h => hts w (List.mem_cons_of_mem _ h)
  intro H locs ls hP hD hS hl
  rw [m_Model_runs_b116] at hm
  refine lv_aload_n hx hb d_Model_runs_116 rfl (lv_at hl 0 rfl) ?_
  refine va_get (D := (dC, dI)) (ci := 12) (v := .int (i 102)) (C := R_Model) (T := F_Model) (N := 127) hx hb htt iw_Model hown hK hP 0 yo_12 rfl 102 (Nat.le_of_ble_eq_true rfl) (htt _ lk_Model_559) (fun _ h9 => h9) yg_102 d_Model_runs_117 ?_
  refine lv_iconst (v := 1) hx hb d_Model_runs_120 (by decide) ?_
  refine lv_icmp_ne (tgt := 128) hx hb d_Model_runs_121 (by decide) (fun c_1 => ?_) (fun c_1 => ?_)
  · replace hm := if_f c_1 hm
    refine lv_aload_n hx hb d_Model_runs_128 rfl (lv_at hl 0 rfl) ?_
    refine lv_iload hx hb d_Model_runs_129 (lv_at hl 1 rfl) ?_
    refine va_put (D := (dC, dI)) (ci := 12) (v := .int v4) (ty := .int) (C := R_Model) (T := F_Model) (N := 127) hx hb htt iw_Model t_Model t_Model_ok n_Model hown hK hP hD hS 0 yo_12 rfl 105 (Nat.le_of_ble_eq_true rfl) (htt _ lk_Model_587) (fun _ h9 => h9) rfl (by decide +kernel) rfl rfl yl_105 d_Model_runs_131 (fun H locs hP hD hS => ?_)
    obtain ⟨i_2, ei_2⟩ : ∃ y9 : Nat → Int32, y9 = upd i 105 v4 := ⟨_, rfl⟩
    replace hm := ob1_at ei_2 hm
    obtain ⟨hP, hD⟩ := yw_105 ei_2 hP hD
    refine lv_aload_n hx hb d_Model_runs_134 rfl (lv_at hl 0 rfl) ?_
    refine lv_iload hx hb d_Model_runs_135 (lv_at hl 2 rfl) ?_
    refine va_put (D := (dC, dI)) (ci := 12) (v := .int v5) (ty := .int) (C := R_Model) (T := F_Model) (N := 127) hx hb htt iw_Model t_Model t_Model_ok n_Model hown hK hP hD hS 0 yo_12 rfl 106 (Nat.le_of_ble_eq_true rfl) (htt _ lk_Model_590) (fun _ h9 => h9) rfl (by decide +kernel) rfl rfl yl_106 d_Model_runs_137 (fun H locs hP hD hS => ?_)
    obtain ⟨i_3, ei_3⟩ : ∃ y9 : Nat → Int32, y9 = upd i_2 106 v5 := ⟨_, rfl⟩
    replace hm := ob1_at ei_3 hm
    obtain ⟨hP, hD⟩ := yw_106 ei_3 hP hD
    refine lv_aload_n hx hb d_Model_runs_140 rfl (lv_at hl 0 rfl) ?_
    refine va_get (D := (dC, dI)) (ci := 12) (v := .int (i_3 102)) (C := R_Model) (T := F_Model) (N := 127) hx hb htt iw_Model hown hK hP 0 yo_12 rfl 102 (Nat.le_of_ble_eq_true rfl) (htt _ lk_Model_559) (fun _ h9 => h9) yg_102 d_Model_runs_141 ?_
    refine lv_if_ne (tgt := 152) hx hb d_Model_runs_144 (by decide) (fun c_4 => ?_) (fun c_4 => ?_)
    · replace hm := if_f c_4 hm
      refine lv_ldc2 (v := 3) hx hb hown (htt _ lk_Model_7) d_Model_runs_152 ?_
      obtain ⟨e1i, e1j, e1a, e1b, e3⟩ := re4m hm
      obtain ⟨hP, hD⟩ := y_eq e1i e1j e1a e1b hP hD
      exact W.lret hx hb hr (fun t9 ht hW => ⟨⟨_, (), rfl, e3.symm, by rw [ht]; exact hP, hD⟩, hS.F ht⟩) hS.2.2 d_Model_runs_155
    · replace hm := if_t c_4 hm
      refine lv_lload hx hb d_Model_runs_147 (lv_at hl 3 rfl) ?_
      refine lv_goto (tgt := 155) hx hb d_Model_runs_149 (by decide) ?_
      obtain ⟨e1i, e1j, e1a, e1b, e3⟩ := re4m hm
      obtain ⟨hP, hD⟩ := y_eq e1i e1j e1a e1b hP hD
      exact W.lret hx hb hr (fun t9 ht hW => ⟨⟨_, (), rfl, e3.symm, by rw [ht]; exact hP, hD⟩, hS.F ht⟩) hS.2.2 d_Model_runs_155
  · replace hm := if_t c_1 hm
    refine lv_ldc2 (v := 3) hx hb hown (htt _ lk_Model_7) d_Model_runs_124 ?_
    obtain ⟨e1i, e1j, e1a, e1b, e3⟩ := re4m hm
    obtain ⟨hP, hD⟩ := y_eq e1i e1j e1a e1b hP hD
    exact W.lret hx hb hr (fun t9 ht hW => ⟨⟨_, (), rfl, e3.symm, by rw [ht]; exact hP, hD⟩, hS.F ht⟩) hS.2.2 d_Model_runs_127
def m_Model_runs_b113 (n : Nat) (G : GB) (rc_30 : (Nat → Int32) → (Nat → Int64) → (Nat → Nat → Int32) → (Nat → Nat → Int64) → Int32 → Int32 → Int32 → Int64 → Option ((Nat → Int32) × (Nat → Int64) × (Nat → Nat → Int32) × (Nat → Nat → Int64) × Int64)) (i : Nat → Int32) (j : Nat → Int64) (a : Nat → Nat → Int32) (b : Nat → Nat → Int64) (v3 : Int32) (v4 : Int32) (v5 : Int32) (v6 : Int64) : Option ((Nat → Int32) × (Nat → Int64) × (Nat → Nat → Int32) × (Nat → Nat → Int64) × Int64) := rc_30 i j a b v3 v4 v5 v6
set_option maxHeartbeats 4000000 in
set_option maxRecDepth 100000 in
theorem lb_Model_runs_113 (d : Nat) (G : GB) (l : Launch) (dC : Nat → ClassId) (dI : Nat → Nat → Nat) (cI cJ cB : ClassId) (adK adV adA : Nat → Nat) (h : Nat) (v : Nat → Nat) (n : Nat) (HG : GH l dC dI cI cJ cB adK adV adA h v n G d) {p : Program} {e : Env} {s : State} {m : MethodId} {args : Array Value} {below : List Frame} {meth : Method} {c : Code} {A : Nat → Prop} (hx : p.tables.exec = Jvm.exec) (hb : c.code = b_Model_runs) (hml : c.maxLocals = 10) (hown : s.vm.findClass R_Model = some m.cls) (hts : ∀ w ∈ w_Model_runs, w.before args s = true) (hK : va_K (dC, dI) classes [(cI, .int), (cJ, .long), (cB, .byte)] s) (hE : tw_E adK adV adA A s s.heap) (hA : ∀ q : Nat, s.heap.size ≤ q → A q) (hr : meth.sig.returnType = (some .long)) (hlocks : meth.locks = false) {i2 : Nat → Int32} {j2 : Nat → Int64} {a2 : Nat → Nat → Int32} {b2 : Nat → Nat → Int64} {r2 : Int64} (rc_30 : (Nat → Int32) → (Nat → Int64) → (Nat → Nat → Int32) → (Nat → Nat → Int64) → Int32 → Int32 → Int32 → Int64 → Option ((Nat → Int32) × (Nat → Int64) × (Nat → Nat → Int32) × (Nat → Nat → Int64) × Int64)) (Hrc_30 : ∀ (i : Nat → Int32) (j : Nat → Int64) (a : Nat → Nat → Int32) (b : Nat → Nat → Int64) (v3 : Int32) (v4 : Int32) (v5 : Int32) (v6 : Int64), rc_30 i j a b v3 v4 v5 v6 = some (i2, j2, a2, b2, r2) → ∀ (H : Heap) (locs : List Loc) (ls : Array Slot), va_P (dC, dI) classes (MW cI cJ cB h v i j a b) H → va_D A (MW cI cJ cB h v i j a b) → va_S A s.heap H locs → lv_has ls 10 [(0, .ref h), (3, .int v3), (4, .int v4), (5, .int v5), (6, .long v6)] → W p l e (gR (d + 1)) s m args below meth c H locs 0 0 (MQ below (va_Ql (xR r2) (yB dC dI cI cJ cB h v i2 j2 a2 b2 A) A) args s 0 0 A) (F0 m 30 ls [])) (i : Nat → Int32) (j : Nat → Int64) (a : Nat → Nat → Int32) (b : Nat → Nat → Int64) (v3 : Int32) (v4 : Int32) (v5 : Int32) (v6 : Int64) (hm : m_Model_runs_b113 n G rc_30 i j a b v3 v4 v5 v6 = some (i2, j2, a2, b2, r2)) : ∀ (H : Heap) (locs : List Loc) (ls : Array Slot), va_P (dC, dI) classes (MW cI cJ cB h v i j a b) H → va_D A (MW cI cJ cB h v i j a b) → va_S A s.heap H locs → lv_has ls 10 [(0, .ref h), (3, .int v3), (4, .int v4), (5, .int v5), (6, .long v6)] → W p l e (gR (d + 1)) s m args below meth c H locs 0 0 (MQ below (va_Ql (xR r2) (yB dC dI cI cJ cB h v i2 j2 a2 b2 A) A) args s 0 0 A) (F0 m 113 ls []) := by
  have htt : ∀ w ∈ tw_T, w.before _ s = true := fun w h => hts w (List.mem_cons_of_mem _ h)
  intro H locs ls hP hD hS hl
  rw [m_Model_runs_b113] at hm
  refine lv_goto (tgt := 30) hx hb d_Model_runs_113 (by decide) ?_
  exact Hrc_30 _ _ _ _ _ _ _ _ hm _ _ _ hP hD hS (lv_sub hl [0, 1, 2, 3, 4] rfl)
def m_Model_runs_b106 (n : Nat) (G : GB) (rc_30 : (Nat → Int32) → (Nat → Int64) → (Nat → Nat → Int32) → (Nat → Nat → Int64) → Int32 → Int32 → Int32 → Int64 → Option ((Nat → Int32) × (Nat → Int64) × (Nat → Nat → Int32) × (Nat → Nat → Int64) × Int64)) (i : Nat → Int32) (j : Nat → Int64) (a : Nat → Nat → Int32) (b : Nat → Nat → Int64) (v3 : Int32) (v4 : Int32) (v5 : Int32) (v6 : Int64) : Option ((Nat → Int32) × (Nat → Int64) × (Nat → Nat → Int32) × (Nat → Nat → Int64) × Int64) := om (m_Model_fails n i j a b (5 : Int32)) (fun i_2 j_3 a_4 b_5 r_6 => m_Model_runs_b113 n G rc_30 i_2 j_3 a_4 b_5 v3 v4 v5 v6)
set_option maxHeartbeats 4000000 in
set_option maxRecDepth 100000 in
theorem lb_Model_runs_106 (d : Nat) (G : GB) (l : Launch) (dC : Nat → ClassId) (dI : Nat → Nat → Nat) (cI cJ cB : ClassId) (adK adV adA : Nat → Nat) (h : Nat) (v : Nat → Nat) (n : Nat) (HG : GH l dC dI cI cJ cB adK adV adA h v n G d) {p : Program} {e : Env} {s : State} {m : MethodId} {args : Array Value} {below : List Frame} {meth : Method} {c : Code} {A : Nat → Prop} (hx : p.tables.exec = Jvm.exec) (hb : c.code = b_Model_runs) (hml : c.maxLocals = 10) (hown : s.vm.findClass R_Model = some m.cls) (hts : ∀ w ∈ w_Model_runs, w.before args s = true) (hK : va_K (dC, dI) classes [(cI, .int), (cJ, .long), (cB, .byte)] s) (hE : tw_E adK adV adA A s s.heap) (hA : ∀ q : Nat, s.heap.size ≤ q → A q) (hr : meth.sig.returnType = (some .long)) (hlocks : meth.locks = false) {i2 : Nat → Int32} {j2 : Nat → Int64} {a2 : Nat → Nat → Int32} {b2 : Nat → Nat → Int64} {r2 : Int64} (rc_30 : (Nat → Int32) → (Nat → Int64) → (Nat → Nat → Int32) → (Nat → Nat → Int64) → Int32 → Int32 → Int32 → Int64 → Option ((Nat → Int32) × (Nat → Int64) × (Nat → Nat → Int32) × (Nat → Nat → Int64) × Int64)) (Hrc_30 : ∀ (i : Nat → Int32) (j : Nat → Int64) (a : Nat → Nat → Int32) (b : Nat → Nat → Int64) (v3 : Int32) (v4 : Int32) (v5 : Int32) (v6 : Int64), rc_30 i j a b v3 v4 v5 v6 = some (i2, j2, a2, b2, r2) → ∀ (H : Heap) (locs : List Loc) (ls : Array Slot), va_P (dC, dI) classes (MW cI cJ cB h v i j a b) H → va_D A (MW cI cJ cB h v i j a b) → va_S A s.heap H locs → lv_has ls 10 [(0, .ref h), (3, .int v3), (4, .int v4), (5, .int v5), (6, .long v6)] → W p l e (gR (d + 1)) s m args below meth c H locs 0 0 (MQ below (va_Ql (xR r2) (yB dC dI cI cJ cB h v i2 j2 a2 b2 A) A) args s 0 0 A) (F0 m 30 ls [])) (i : Nat → Int32) (j : Nat → Int64) (a : Nat → Nat → Int32) (b : Nat → Nat → Int64) (v3 : Int32) (v4 : Int32) (v5 : Int32) (v6 : Int64) (hm : m_Model_runs_b106 n G rc_30 i j a b v3 v4 v5 v6 = some (i2, j2, a2, b2, r2)) : ∀ (H : Heap) (locs : List Loc) (ls : Array Slot), va_P (dC, dI) classes (MW cI cJ cB h v i j a b) H → va_D A (MW cI cJ cB h v i j a b) → va_S A s.heap H locs → lv_has ls 10 [(0, .ref h), (3, .int v3), (4, .int v4), (5, .int v5), (6, .long v6)] → W p l e (gR (d + 1)) s m args below meth c H locs 0 0 (MQ below (va_Ql (xR r2) (yB dC dI cI cJ cB h v i2 j2 a2 b2 A) A) args s 0 0 A) (F0 m 106 ls []) := by
  have htt : ∀ w ∈ tw_T, w.before _ s = true := fun w h => hts w (List.mem_cons_of_mem _ h)
  intro H locs ls hP hD hS hl
  rw [m_Model_runs_b106] at hm
  refine lv_aload_n hx hb d_Model_runs_106 rfl (lv_at hl 0 rfl) ?_
  refine lv_iconst (v := 5) hx hb d_Model_runs_107 (by decide) ?_
  obtain ⟨i_2, j_3, a_4, b_5, r_6, h_1, hm⟩ := om_some hm
  have hFc := x_free hD hS hA
  refine va_calll (va_runV (As := [.int 5]) (rest := []) ⟨hx, hb, hml, hown, hts⟩ (x_Model_fails l dC dI cI cJ cB adK adV adA h v H.size n h_1) (cwV 1 hts (tw_GV tw_cons cw_Model_fails lk_Model_596 in_Model_fails sel_Model_fails ini_Model) rfl rfl rfl ⟨rfl, hd_Model_fails⟩ (gR_fit (d + 1) (Nat.le_of_ble_eq_true rfl) (Nat.le_of_ble_eq_true rfl))) (ypV hK hP hD hS hE hFc yo_12 rfl) rfl rfl hl.1 rfl (lv_room (Nat.le_of_ble_eq_true rfl)) d_Model_runs_108 ⟨Nat.le_of_ble_eq_true rfl, Nat.le_of_ble_eq_true rfl⟩) hS (fun q _ h => hFc q h) hFc (fun r9 u9 t9 H locs ht hvm e9 hB hz1 hk1 hS => ?_)
  have e9 : r_6 = r9 := e9
  subst e9
  obtain ⟨hP, hD⟩ := y_aft hB ht hFc
  clear hFc hk1 hz1 hvm hB ht
  refine lv_lstore (lv' := [(8, .long r_6), (0, .ref h), (3, .int v3), (4, .int v4), (5, .int v5), (6, .long v6)]) hx hb d_Model_runs_111 hl (by decide) rfl (fun ls hl => ?_)
  exact lb_Model_runs_113 d G l dC dI cI cJ cB adK adV adA h v n HG hx hb hml hown hts hK hE hA hr hlocks rc_30 Hrc_30 _ _ _ _ _ _ _ _ hm _ _ _ hP hD hS (lv_sub hl [1, 2, 3, 4, 5] rfl)
def m_Model_runs_b30 (n : Nat) (G : GB) : Nat → (Nat → Int32) → (Nat → Int64) → (Nat → Nat → Int32) → (Nat → Nat → Int64) → Int32 → Int32 → Int32 → Int64 → Option ((Nat → Int32) × (Nat → Int64) × (Nat → Nat → Int32) × (Nat → Nat → Int64) × Int64)
  | 0, _, _, _, _, _, _, _, _ => none
  | f + 1, i, j, a, b, v3, v4, v5, v6 => if ((i 102)) = ((0 : Int32)) then ck ((i 105)) 90000 (if ((a 13 (i 105).toNatClampNeg)) ≤ ((i 106)) then m_Model_runs_b116 n G i j a b v4 v5 v6 else om (G.1 i j a b (0 : Int32)) (fun i_5 j_6 a_7 b_8 r_9 => if ((i_5 102)) = ((0 : Int32)) then if ((lg_cmp r_9 3)) = ((0 : Int32)) then m_Model_runs_b30 n G f i_5 j_6 a_7 b_8 v3 v4 v5 v6 else if v3 = ((0 : Int32)) then m_Model_runs_b106 n G (m_Model_runs_b30 n G f) i_5 j_6 a_7 b_8 v3 v4 v5 v6 else ck ((i_5 105)) 90000 (if ((i_5 106)) = ((a_7 13 (i_5 105).toNatClampNeg)) then m_Model_runs_b113 n G (m_Model_runs_b30 n G f) i_5 j_6 a_7 b_8 v3 v4 v5 r_9 else m_Model_runs_b106 n G (m_Model_runs_b30 n G f) i_5 j_6 a_7 b_8 v3 v4 v5 v6) else m_Model_runs_b30 n G f i_5 j_6 a_7 b_8 v3 v4 v5 v6)) else m_Model_runs_b116 n G i j a b v4 v5 v6
set_option maxHeartbeats 4000000 in
set_option maxRecDepth 100000 in
theorem lb_Model_runs_30 (d : Nat) (G : GB) (l : Launch) (dC : Nat → ClassId) (dI : Nat → Nat → Nat) (cI cJ cB : ClassId) (adK adV adA : Nat → Nat) (h : Nat) (v : Nat → Nat) (n : Nat) (HG : GH l dC dI cI cJ cB adK adV adA h v n G d) {p : Program} {e : Env} {s : State} {m : MethodId} {args : Array Value} {below : List Frame} {meth : Method} {c : Code} {A : Nat → Prop} (hx : p.tables.exec = Jvm.exec) (hb : c.code = b_Model_runs) (hml : c.maxLocals = 10) (hown : s.vm.findClass R_Model = some m.cls) (hts : ∀ w ∈ w_Model_runs, w.before args s = true) (hK : va_K (dC, dI) classes [(cI, .int), (cJ, .long), (cB, .byte)] s) (hE : tw_E adK adV adA A s s.heap) (hA : ∀ q : Nat, s.heap.size ≤ q → A q) (hr : meth.sig.returnType = (some .long)) (hlocks : meth.locks = false) {i2 : Nat → Int32} {j2 : Nat → Int64} {a2 : Nat → Nat → Int32} {b2 : Nat → Nat → Int64} {r2 : Int64} : ∀ (f : Nat) (i : Nat → Int32) (j : Nat → Int64) (a : Nat → Nat → Int32) (b : Nat → Nat → Int64) (v3 : Int32) (v4 : Int32) (v5 : Int32) (v6 : Int64), m_Model_runs_b30 n G f i j a b v3 v4 v5 v6 = some (i2, j2, a2, b2, r2) → ∀ (H : Heap) (locs : List Loc) (ls : Array Slot), va_P (dC, dI) classes (MW cI cJ cB h v i j a b) H → va_D A (MW cI cJ cB h v i j a b) → va_S A s.heap H locs → lv_has ls 10 [(0, .ref h), (3, .int v3), (4, .int v4), (5, .int v5), (6, .long v6)] → W p l e (gR (d + 1)) s m args below meth c H locs 0 0 (MQ below (va_Ql (xR r2) (yB dC dI cI cJ cB h v i2 j2 a2 b2 A) A) args s 0 0 A) (F0 m 30 ls []) := by
  have htt : ∀ w ∈ tw_T, w.before _ s = true := fun w h => hts w (List.mem_cons_of_mem _ h)
  intro f
  induction f with
  | zero =>
    intro i j a b v3 v4 v5 v6 hm
    rw [m_Model_runs_b30] at hm
    cases hm
  | succ f ih =>
    intro i j a b v3 v4 v5 v6 hm H locs ls hP hD hS hl
    rw [m_Model_runs_b30] at hm
    refine lv_aload_n hx hb d_Model_runs_30 rfl (lv_at hl 0 rfl) ?_
    refine va_get (D := (dC, dI)) (ci := 12) (v := .int (i 102)) (C := R_Model) (T := F_Model) (N := 127) hx hb htt iw_Model hown hK hP 0 yo_12 rfl 102 (Nat.le_of_ble_eq_true rfl) (htt _ lk_Model_559) (fun _ h9 => h9) yg_102 d_Model_runs_31 ?_
    refine lv_if_ne (tgt := 116) hx hb d_Model_runs_34 (by decide) (fun c_1 => ?_) (fun c_1 => ?_)
    · replace hm := if_f c_1 hm
      exact lb_Model_runs_116 d G l dC dI cI cJ cB adK adV adA h v n HG hx hb hml hown hts hK hE hA hr hlocks _ _ _ _ _ _ _ hm _ _ _ hP hD hS (lv_sub hl [0, 2, 3, 4] rfl)
    · replace hm := if_t c_1 hm
      refine lv_aload_n hx hb d_Model_runs_37 rfl (lv_at hl 0 rfl) ?_
      refine va_get (D := (dC, dI)) (ci := 12) (v := .int (i 106)) (C := R_Model) (T := F_Model) (N := 127) hx hb htt iw_Model hown hK hP 0 yo_12 rfl 106 (Nat.le_of_ble_eq_true rfl) (htt _ lk_Model_590) (fun _ h9 => h9) yg_106 d_Model_runs_38 ?_
      refine lv_aload_n hx hb d_Model_runs_41 rfl (lv_at hl 0 rfl) ?_
      refine va_get (D := (dC, dI)) (ci := 12) (v := .ref ((v 13))) (C := R_Model) (T := F_Model) (N := 127) hx hb htt iw_Model hown hK hP 0 yo_12 rfl 13 (Nat.le_of_ble_eq_true rfl) (htt _ lk_Model_47) (fun _ h9 => h9) yg_13 d_Model_runs_42 ?_
      refine lv_aload_n hx hb d_Model_runs_45 rfl (lv_at hl 0 rfl) ?_
      refine va_get (D := (dC, dI)) (ci := 12) (v := .int (i 105)) (C := R_Model) (T := F_Model) (N := 127) hx hb htt iw_Model hown hK hP 0 yo_12 rfl 105 (Nat.le_of_ble_eq_true rfl) (htt _ lk_Model_587) (fun _ h9 => h9) yg_105 d_Model_runs_46 ?_
      obtain ⟨h_2, hm⟩ := ck_some hm
      refine va_iald hx hb hK hP 13 0 ya_13 rfl h_2 d_Model_runs_49 ?_
      refine lv_icmp_ge (tgt := 116) hx hb d_Model_runs_50 (by decide) (fun c_3 => ?_) (fun c_3 => ?_)
      · replace hm := if_t c_3 hm
        exact lb_Model_runs_116 d G l dC dI cI cJ cB adK adV adA h v n HG hx hb hml hown hts hK hE hA hr hlocks _ _ _ _ _ _ _ hm _ _ _ hP hD hS (lv_sub hl [0, 2, 3, 4] rfl)
      · replace hm := if_f c_3 hm
        refine lv_aload_n hx hb d_Model_runs_53 rfl (lv_at hl 0 rfl) ?_
        refine lv_iconst (v := 0) hx hb d_Model_runs_54 (by decide) ?_
        obtain ⟨i_5, j_6, a_7, b_8, r_9, h_4, hm⟩ := om_some hm
        have hFc := x_free hD hS hA
        refine va_calll (va_runV (As := [.int 0]) (rest := []) ⟨hx, hb, hml, hown, hts⟩ (HG.1 H.size _ _ _ _ _ _ _ _ _ _ h_4) (cwV 1 hts (tw_GV tw_cons cw_Model_eval lk_Model_593 in_Model_eval sel_Model_eval ini_Model) rfl rfl rfl ⟨rfl, hd_Model_eval⟩ (gR_up (by decide))) (ypV hK hP hD hS hE hFc yo_12 rfl) rfl rfl hl.1 rfl (lv_room (Nat.le_of_ble_eq_true rfl)) d_Model_runs_55 ⟨Nat.le_of_ble_eq_true rfl, Nat.le_of_ble_eq_true rfl⟩) hS (fun q _ h => hFc q h) hFc (fun r9 u9 t9 H locs ht hvm e9 hB hz1 hk1 hS => ?_)
        have e9 : r_9 = r9 := e9
        subst e9
        obtain ⟨hP, hD⟩ := y_aft hB ht hFc
        clear hFc hk1 hz1 hvm hB ht
        refine lv_lstore (lv' := [(8, .long r_9), (0, .ref h), (3, .int v3), (4, .int v4), (5, .int v5), (6, .long v6)]) hx hb d_Model_runs_58 hl (by decide) rfl (fun ls hl => ?_)
        refine lv_aload_n hx hb d_Model_runs_60 rfl (lv_at hl 1 rfl) ?_
        refine va_get (D := (dC, dI)) (ci := 12) (v := .int (i_5 102)) (C := R_Model) (T := F_Model) (N := 127) hx hb htt iw_Model hown hK hP 0 yo_12 rfl 102 (Nat.le_of_ble_eq_true rfl) (htt _ lk_Model_559) (fun _ h9 => h9) yg_102 d_Model_runs_61 ?_
        refine lv_if_ne (tgt := 30) hx hb d_Model_runs_64 (by decide) (fun c_10 => ?_) (fun c_10 => ?_)
        · replace hm := if_f c_10 hm
          exact ih _ _ _ _ _ _ _ _ hm _ _ _ hP hD hS (lv_sub hl [1, 2, 3, 4, 5] rfl)
        · replace hm := if_t c_10 hm
          refine lv_lload hx hb d_Model_runs_67 (lv_at hl 0 rfl) ?_
          refine lv_ldc2 (v := 3) hx hb hown (htt _ lk_Model_7) d_Model_runs_69 ?_
          refine W.lcmp hx hb d_Model_runs_72 ?_
          refine lv_if_ne (tgt := 79) hx hb d_Model_runs_73 (by decide) (fun c_11 => ?_) (fun c_11 => ?_)
          · replace hm := if_f c_11 hm
            refine lv_iload_n hx hb d_Model_runs_79 rfl (lv_at hl 2 rfl) ?_
            refine lv_if_eq (tgt := 106) hx hb d_Model_runs_80 (by decide) (fun c_12 => ?_) (fun c_12 => ?_)
            · replace hm := if_t c_12 hm
              exact lb_Model_runs_106 d G l dC dI cI cJ cB adK adV adA h v n HG hx hb hml hown hts hK hE hA hr hlocks (m_Model_runs_b30 n G f) ih _ _ _ _ _ _ _ _ hm _ _ _ hP hD hS (lv_sub hl [1, 2, 3, 4, 5] rfl)
            · replace hm := if_f c_12 hm
              refine lv_aload_n hx hb d_Model_runs_83 rfl (lv_at hl 1 rfl) ?_
              refine va_get (D := (dC, dI)) (ci := 12) (v := .int (i_5 106)) (C := R_Model) (T := F_Model) (N := 127) hx hb htt iw_Model hown hK hP 0 yo_12 rfl 106 (Nat.le_of_ble_eq_true rfl) (htt _ lk_Model_590) (fun _ h9 => h9) yg_106 d_Model_runs_84 ?_
              refine lv_aload_n hx hb d_Model_runs_87 rfl (lv_at hl 1 rfl) ?_
              refine va_get (D := (dC, dI)) (ci := 12) (v := .ref ((v 13))) (C := R_Model) (T := F_Model) (N := 127) hx hb htt iw_Model hown hK hP 0 yo_12 rfl 13 (Nat.le_of_ble_eq_true rfl) (htt _ lk_Model_47) (fun _ h9 => h9) yg_13 d_Model_runs_88 ?_
              refine lv_aload_n hx hb d_Model_runs_91 rfl (lv_at hl 1 rfl) ?_
              refine va_get (D := (dC, dI)) (ci := 12) (v := .int (i_5 105)) (C := R_Model) (T := F_Model) (N := 127) hx hb htt iw_Model hown hK hP 0 yo_12 rfl 105 (Nat.le_of_ble_eq_true rfl) (htt _ lk_Model_587) (fun _ h9 => h9) yg_105 d_Model_runs_92 ?_
              obtain ⟨h_13, hm⟩ := ck_some hm
              refine va_iald hx hb hK hP 13 0 ya_13 rfl h_13 d_Model_runs_95 ?_
              refine lv_icmp_ne (tgt := 106) hx hb d_Model_runs_96 (by decide) (fun c_14 => ?_) (fun c_14 => ?_)
              · replace hm := if_f c_14 hm
                exact lb_Model_runs_106 d G l dC dI cI cJ cB adK adV adA h v n HG hx hb hml hown hts hK hE hA hr hlocks (m_Model_runs_b30 n G f) ih _ _ _ _ _ _ _ _ hm _ _ _ hP hD hS (lv_sub hl [1, 2, 3, 4, 5] rfl)
              · replace hm := if_t c_14 hm
                refine lv_lload hx hb d_Model_runs_99 (lv_at hl 0 rfl) ?_
                refine lv_lstore (lv' := [(6, .long r_9), (8, .long r_9), (0, .ref h), (3, .int v3), (4, .int v4), (5, .int v5)]) hx hb d_Model_runs_101 hl (by decide) rfl (fun ls hl => ?_)
                refine lv_goto (tgt := 113) hx hb d_Model_runs_103 (by decide) ?_
                exact lb_Model_runs_113 d G l dC dI cI cJ cB adK adV adA h v n HG hx hb hml hown hts hK hE hA hr hlocks (m_Model_runs_b30 n G f) ih _ _ _ _ _ _ _ _ hm _ _ _ hP hD hS (lv_sub hl [2, 3, 4, 5, 0] rfl)
          · replace hm := if_t c_11 hm
            refine lv_goto (tgt := 30) hx hb d_Model_runs_76 (by decide) ?_
            exact ih _ _ _ _ _ _ _ _ hm _ _ _ hP hD hS (lv_sub hl [1, 2, 3, 4, 5] rfl)
def m_Model_runs (n : Nat) (G : GB) (i : Nat → Int32) (j : Nat → Int64) (a : Nat → Nat → Int32) (b : Nat → Nat → Int64) (v1 : Int64) (v3 : Int32) : Option ((Nat → Int32) × (Nat → Int64) × (Nat → Nat → Int32) × (Nat → Nat → Int64) × Int64) := ob1 (i 105 : Int32) (fun x_1 => ob1 (i 106 : Int32) (fun x_2 => ob0 (m_Model_what n v1) (fun r_4 => ob1 (upd i 105 r_4 : Nat → Int32) (fun i_5 => ob1 (upd i_5 106 0 : Nat → Int32) (fun i_6 => m_Model_runs_b30 n G n i_6 j a b v3 x_1 x_2 (3 : Int64))))))
set_option maxHeartbeats 4000000 in
set_option maxRecDepth 100000 in
theorem x_Model_runs (d : Nat) (G : GB) (l : Launch) (dC : Nat → ClassId) (dI : Nat → Nat → Nat) (cI cJ cB : ClassId) (adK adV adA : Nat → Nat) (h : Nat) (v : Nat → Nat) (sz : Nat) (n : Nat) (HG : GH l dC dI cI cJ cB adK adV adA h v n G d) {i : Nat → Int32} {j : Nat → Int64} {a : Nat → Nat → Int32} {b : Nat → Nat → Int64} {v1 : Int64} {v3 : Int32} {i2 : Nat → Int32} {j2 : Nat → Int64} {a2 : Nat → Nat → Int32} {b2 : Nat → Nat → Int64} {r2 : Int64} (hm : m_Model_runs n G i j a b v1 v3 = some (i2, j2, a2, b2, r2)) : Met l y_Model_runs w_Model_runs (gR (d + 1)) (va_Pc [.ref h, .long v1, .int v3] (yE dC dI cI cJ cB adK adV adA h v i j a b sz)) (va_Ql (xR r2) (yB dC dI cI cJ cB h v i2 j2 a2 b2 (va_A (MW cI cJ cB h v i j a b) sz)) (va_A (MW cI cJ cB h v i j a b) sz)) 0 0 ((va_A (MW cI cJ cB h v i j a b) sz)) := by
  refine Met.ofW (cc := b_Model_runs) (maxL := 10) (ret := (some .long)) (by decide) rfl ?_
  intro p e s m args below meth c s₁ B hml hv
  obtain ⟨rfl, hsz, hP, hK, hE, hD0⟩ := hv
  have hx := B.exec
  have hb := B.bytes
  have hr := B.returns
  have hts := atoms_spec (ws := w_Model_runs) B.pre
  have htt : ∀ w ∈ tw_T, w.before _ s = true := fun w h => hts w (List.mem_cons_of_mem _ h)
  have hown : s.vm.findClass R_Model = some m.cls := findClass_of_methodNamed B.named
  have hlocks := B.notSynchronized
  subst hsz
  have hD := hD0.self (sz := s.heap.size)
  generalize hAe : (va_A (MW cI cJ cB h v i j a b) s.heap.size) = A at hD hE ⊢
  have hA : ∀ q : Nat, s.heap.size ≤ q → A q := fun q h => by rw [← hAe]; exact Or.inr h
  have hS : va_S A s.heap s.heap [] := va_S.rf
  have hl := lv_entry ([.ref h, .long v1, .int v3]) (n := 10) (Nat.le_of_ble_eq_true rfl)
  rw [lg_entry_eq]
  generalize (lg_sl ([.ref h, .long v1, .int v3]) ++ List.replicate (10 - (lg_sl ([.ref h, .long v1, .int v3])).length) Slot.unset).toArray = ls at hl ⊢
  have hl : lv_has ls 10 [(0, .ref h), (1, .long v1), (3, .int v3)] := hl
  rw [m_Model_runs] at hm
  refine lv_aload_n hx hb d_Model_runs_0 rfl (lv_at hl 0 rfl) ?_
  refine va_get (D := (dC, dI)) (ci := 12) (v := .int (i 105)) (C := R_Model) (T := F_Model) (N := 127) hx hb htt iw_Model hown hK hP 0 yo_12 rfl 105 (Nat.le_of_ble_eq_true rfl) (htt _ lk_Model_587) (fun _ h9 => h9) yg_105 d_Model_runs_1 ?_
  refine lv_topi (fun x_1 ex_1 => ?_)
  replace hm := ob1_at ex_1 hm
  refine lv_istore (lv' := [(4, .int x_1), (0, .ref h), (1, .long v1), (3, .int v3)]) hx hb d_Model_runs_4 hl (by decide) rfl (fun ls hl => ?_)
  refine lv_aload_n hx hb d_Model_runs_6 rfl (lv_at hl 1 rfl) ?_
  refine va_get (D := (dC, dI)) (ci := 12) (v := .int (i 106)) (C := R_Model) (T := F_Model) (N := 127) hx hb htt iw_Model hown hK hP 0 yo_12 rfl 106 (Nat.le_of_ble_eq_true rfl) (htt _ lk_Model_590) (fun _ h9 => h9) yg_106 d_Model_runs_7 ?_
  refine lv_topi (fun x_2 ex_2 => ?_)
  replace hm := ob1_at ex_2 hm
  refine lv_istore (lv' := [(5, .int x_2), (4, .int x_1), (0, .ref h), (1, .long v1), (3, .int v3)]) hx hb d_Model_runs_10 hl (by decide) rfl (fun ls hl => ?_)
  refine lv_aload_n hx hb d_Model_runs_12 rfl (lv_at hl 2 rfl) ?_
  refine lv_lload_n hx hb d_Model_runs_13 rfl (lv_at hl 3 rfl) ?_
  obtain ⟨r_4, h_3, hm⟩ := ob0_some hm
  have hFc := x_free0 hS hA
  refine va_calli (va_runS (As := [.long v1]) (rest := [.ref h]) ⟨hx, hb, hml, hown, hts⟩ (x_Model_what l s.heap.size n h_3) (va_cwS 1 hts (tw_GS tw_cons cw_Model_what lk_Model_64 st_Model_what ini_Model) rfl rfl rfl hd_Model_what (gR_fit (d + 1) (Nat.le_of_ble_eq_true rfl) (Nat.le_of_ble_eq_true rfl))) xpS0 rfl rfl hl.1 rfl (lv_room (Nat.le_of_ble_eq_true rfl)) d_Model_runs_14 ⟨Nat.le_of_ble_eq_true rfl, Nat.le_of_ble_eq_true rfl⟩) hS (fun q _ h => hFc q h) hFc (fun r9 u9 t9 H locs ht hvm e9 hB hz1 hk1 hS => ?_)
  have e9 : r_4 = r9 := e9
  subst e9
  replace hP := x_keep hP hk1
  clear hFc hk1 hz1 hvm hB ht
  refine va_put (D := (dC, dI)) (ci := 12) (v := .int r_4) (ty := .int) (C := R_Model) (T := F_Model) (N := 127) hx hb htt iw_Model t_Model t_Model_ok n_Model hown hK hP hD hS 0 yo_12 rfl 105 (Nat.le_of_ble_eq_true rfl) (htt _ lk_Model_587) (fun _ h9 => h9) rfl (by decide +kernel) rfl rfl yl_105 d_Model_runs_17 (fun H locs hP hD hS => ?_)
  obtain ⟨i_5, ei_5⟩ : ∃ y9 : Nat → Int32, y9 = upd i 105 r_4 := ⟨_, rfl⟩
  replace hm := ob1_at ei_5 hm
  obtain ⟨hP, hD⟩ := yw_105 ei_5 hP hD
  refine lv_aload_n hx hb d_Model_runs_20 rfl (lv_at hl 2 rfl) ?_
  refine lv_iconst (v := 0) hx hb d_Model_runs_21 (by decide) ?_
  refine va_put (D := (dC, dI)) (ci := 12) (v := .int 0) (ty := .int) (C := R_Model) (T := F_Model) (N := 127) hx hb htt iw_Model t_Model t_Model_ok n_Model hown hK hP hD hS 0 yo_12 rfl 106 (Nat.le_of_ble_eq_true rfl) (htt _ lk_Model_590) (fun _ h9 => h9) rfl (by decide +kernel) rfl rfl yl_106 d_Model_runs_22 (fun H locs hP hD hS => ?_)
  obtain ⟨i_6, ei_6⟩ : ∃ y9 : Nat → Int32, y9 = upd i_5 106 0 := ⟨_, rfl⟩
  replace hm := ob1_at ei_6 hm
  obtain ⟨hP, hD⟩ := yw_106 ei_6 hP hD
  refine lv_ldc2 (v := 3) hx hb hown (htt _ lk_Model_7) d_Model_runs_25 ?_
  refine lv_lstore (lv' := [(6, .long 3), (5, .int x_2), (4, .int x_1), (0, .ref h), (1, .long v1), (3, .int v3)]) hx hb d_Model_runs_28 hl (by decide) rfl (fun ls hl => ?_)
  exact lb_Model_runs_30 d G l dC dI cI cJ cB adK adV adA h v n HG hx hb hml hown hts hK hE hA hr hlocks n _ _ _ _ _ _ _ _ hm _ _ _ hP hD hS (lv_sub hl [3, 5, 2, 1, 0] rfl)

def m_Model_applied_b139 (n : Nat) (G : GB) (i : Nat → Int32) (j : Nat → Int64) (a : Nat → Nat → Int32) (b : Nat → Nat → Int64)  : Option ((Nat → Int32) × (Nat → Int64) × (Nat → Nat → Int32) × (Nat → Nat → Int64) × Int64) := ob0 (m_Model_truth n i j a b (1 : Int32)) (fun r_2 => some (i, j, a, b, r_2))
set_option maxHeartbeats 4000000 in
set_option maxRecDepth 100000 in
theorem lb_Model_applied_139 (d : Nat) (G : GB) (l : Launch) (dC : Nat → ClassId) (dI : Nat → Nat → Nat) (cI cJ cB : ClassId) (adK adV adA : Nat → Nat) (h : Nat) (v : Nat → Nat) (n : Nat) (HG : GH l dC dI cI cJ cB adK adV adA h v n G d) {p : Program} {e : Env} {s : State} {m : MethodId} {args : Array Value} {below : List Frame} {meth : Method} {c : Code} {A : Nat → Prop} (hx : p.tables.exec = Jvm.exec) (hb : c.code = b_Model_applied) (hml : c.maxLocals = 7) (hown : s.vm.findClass R_Model = some m.cls) (hts : ∀ w ∈ w_Model_applied, w.before args s = true) (hK : va_K (dC, dI) classes [(cI, .int), (cJ, .long), (cB, .byte)] s) (hE : tw_E adK adV adA A s s.heap) (hA : ∀ q : Nat, s.heap.size ≤ q → A q) (hr : meth.sig.returnType = (some .long)) (hlocks : meth.locks = false) {i2 : Nat → Int32} {j2 : Nat → Int64} {a2 : Nat → Nat → Int32} {b2 : Nat → Nat → Int64} {r2 : Int64} (i : Nat → Int32) (j : Nat → Int64) (a : Nat → Nat → Int32) (b : Nat → Nat → Int64)  (hm : m_Model_applied_b139 n G i j a b = some (i2, j2, a2, b2, r2)) : ∀ (H : Heap) (locs : List Loc) (ls : Array Slot), va_P (dC, dI) classes (MW cI cJ cB h v i j a b) H → va_D A (MW cI cJ cB h v i j a b) → va_S A s.heap H locs → lv_has ls 7 [] → W p l e (gR (d + 1)) s m args below meth c H locs 0 0 (MQ below (va_Ql (xR r2) (yB dC dI cI cJ cB h v i2 j2 a2 b2 A) A) args s 0 0 A) (F0 m 139 ls [.ref h]) := by
  have htt : ∀ w ∈ tw_T, w.before _ s = true := fun w h => hts w (List.mem_cons_of_mem _ h)
  intro H locs ls hP hD hS hl
  rw [m_Model_applied_b139] at hm
  refine lv_iconst (v := 1) hx hb d_Model_applied_139 (by decide) ?_
  refine lv_goto (tgt := 144) hx hb d_Model_applied_140 (by decide) ?_
  obtain ⟨r_2, h_1, hm⟩ := ob0_some hm
  have hFc := x_free0 hS hA
  refine va_calll (va_runV (As := [.int 1]) (rest := []) ⟨hx, hb, hml, hown, hts⟩ (x_Model_truth l dC dI cI cJ cB adK adV adA h v H.size n h_1) (cwV 1 hts (tw_GV tw_cons cw_Model_truth lk_Model_721 in_Model_truth sel_Model_truth ini_Model) rfl rfl rfl ⟨rfl, hd_Model_truth⟩ (gR_fit (d + 1) (Nat.le_of_ble_eq_true rfl) (Nat.le_of_ble_eq_true rfl))) (ypVr hK hP hS hE hFc yo_12 rfl) rfl rfl hl.1 rfl (lv_room (Nat.le_of_ble_eq_true rfl)) d_Model_applied_144 ⟨Nat.le_of_ble_eq_true rfl, Nat.le_of_ble_eq_true rfl⟩) hS (fun q _ h => hFc q h) hFc (fun r9 u9 t9 H locs ht hvm e9 hB hz1 hk1 hS => ?_)
  have e9 : r_2 = r9 := e9
  subst e9
  replace hP := x_keep hP hk1
  clear hFc hk1 hz1 hvm hB ht
  refine lv_goto (tgt := 190) hx hb d_Model_applied_147 (by decide) ?_
  obtain ⟨e1i, e1j, e1a, e1b, e3⟩ := re4m hm
  obtain ⟨hP, hD⟩ := y_eq e1i e1j e1a e1b hP hD
  exact W.lret hx hb hr (fun t9 ht hW => ⟨⟨_, (), rfl, e3.symm, by rw [ht]; exact hP, hD⟩, hS.F ht⟩) hS.2.2 d_Model_applied_190
def m_Model_applied (n : Nat) (G : GB) (i : Nat → Int32) (j : Nat → Int64) (a : Nat → Nat → Int32) (b : Nat → Nat → Int64) (v1 : Int32) (v2 : Int32) : Option ((Nat → Int32) × (Nat → Int64) × (Nat → Nat → Int32) × (Nat → Nat → Int64) × Int64) := ob0 (m_Model_kinds n i j a b v1) (fun r_2 => ct r_2 (om (m_Model_fits n i j a b v2 r_2) (fun i_4 j_5 a_6 b_7 r_8 => if r_8 = ((0 : Int32)) then some (i_4, j_5, a_6, b_7, 3) else ck v2 36000 (ob1 (b_7 111 v2.toNatClampNeg : Int64) (fun x_11 => ck ((v2 + 1)) 36000 (ob1 (b_7 111 (v2 + 1).toNatClampNeg : Int64) (fun x_13 => if ((18 : Int32)) < v1 then if ((31 : Int32)) < v1 then if ((48 : Int32)) < v1 then if ((55 : Int32)) < v1 then ck ((v2 + 2)) 36000 (om (G.2.2.2.2.2.1 i_4 j_5 a_6 b_7 v1 x_11 x_13 (b_7 111 (v2 + 2).toNatClampNeg)) (fun i_20 j_21 a_22 b_23 r_24 => some (i_20, j_21, a_22, b_23, r_24))) else om (m_Model_named n i_4 j_5 a_6 b_7 v1 x_11 x_13) (fun i_26 j_27 a_28 b_29 r_30 => some (i_26, j_27, a_28, b_29, r_30)) else om (m_Model_values n i_4 j_5 a_6 b_7 v1 x_11 x_13) (fun i_32 j_33 a_34 b_35 r_36 => some (i_32, j_33, a_34, b_35, r_36)) else if v1 = ((31 : Int32)) then om (m_Model_equal n i_4 j_5 a_6 b_7 x_11 x_13) (fun i_79 j_80 a_81 b_82 r_83 => ob0 (m_Model_truth n i_79 j_80 a_81 b_82 r_83) (fun r_85 => some (i_79, j_80, a_81, b_82, r_85))) else if v1 = ((28 : Int32)) then ob0 (m_Model_isTrue n i_4 j_5 a_6 b_7 x_11) (fun r_67 => if r_67 = ((0 : Int32)) then ob0 (m_Model_truth n i_4 j_5 a_6 b_7 (0 : Int32)) (fun r_70 => some (i_4, j_5, a_6, b_7, r_70)) else ob0 (m_Model_isTrue n i_4 j_5 a_6 b_7 x_13) (fun r_72 => if r_72 = ((0 : Int32)) then ob0 (m_Model_truth n i_4 j_5 a_6 b_7 (0 : Int32)) (fun r_75 => some (i_4, j_5, a_6, b_7, r_75)) else ob0 (m_Model_truth n i_4 j_5 a_6 b_7 (1 : Int32)) (fun r_77 => some (i_4, j_5, a_6, b_7, r_77)))) else if v1 = ((29 : Int32)) then ob0 (m_Model_isTrue n i_4 j_5 a_6 b_7 x_11) (fun r_59 => if r_59 = ((0 : Int32)) then ob0 (m_Model_isTrue n i_4 j_5 a_6 b_7 x_13) (fun r_62 => if r_62 = ((0 : Int32)) then ob0 (m_Model_truth n i_4 j_5 a_6 b_7 (0 : Int32)) (fun r_65 => some (i_4, j_5, a_6, b_7, r_65)) else m_Model_applied_b139 n G i_4 j_5 a_6 b_7) else m_Model_applied_b139 n G i_4 j_5 a_6 b_7) else if v1 = ((30 : Int32)) then ob0 (m_Model_isTrue n i_4 j_5 a_6 b_7 x_11) (fun r_52 => if r_52 = ((0 : Int32)) then ob0 (m_Model_truth n i_4 j_5 a_6 b_7 (1 : Int32)) (fun r_57 => some (i_4, j_5, a_6, b_7, r_57)) else ob0 (m_Model_truth n i_4 j_5 a_6 b_7 (0 : Int32)) (fun r_55 => some (i_4, j_5, a_6, b_7, r_55))) else ob0 (m_Model_what n x_11) (fun r_42 => ob0 (m_Model_what n x_13) (fun r_44 => om (m_Model_numbers n i_4 j_5 a_6 b_7 v1 r_42 r_44) (fun i_46 j_47 a_48 b_49 r_50 => some (i_46, j_47, a_48, b_49, r_50)))) else ob0 (m_Model_what n x_11) (fun r_87 => ob0 (m_Model_what n x_13) (fun r_89 => om (m_Model_turtles n i_4 j_5 a_6 b_7 v1 r_87 r_89) (fun i_91 j_92 a_93 b_94 r_95 => some (i_91, j_92, a_93, b_94, r_95)))))))))))
set_option maxHeartbeats 4000000 in
set_option maxRecDepth 100000 in
theorem x_Model_applied (d : Nat) (G : GB) (l : Launch) (dC : Nat → ClassId) (dI : Nat → Nat → Nat) (cI cJ cB : ClassId) (adK adV adA : Nat → Nat) (h : Nat) (v : Nat → Nat) (sz : Nat) (n : Nat) (HG : GH l dC dI cI cJ cB adK adV adA h v n G d) {i : Nat → Int32} {j : Nat → Int64} {a : Nat → Nat → Int32} {b : Nat → Nat → Int64} {v1 : Int32} {v2 : Int32} {i2 : Nat → Int32} {j2 : Nat → Int64} {a2 : Nat → Nat → Int32} {b2 : Nat → Nat → Int64} {r2 : Int64} (hm : m_Model_applied n G i j a b v1 v2 = some (i2, j2, a2, b2, r2)) : Met l y_Model_applied w_Model_applied (gR (d + 1)) (va_Pc [.ref h, .int v1, .int v2] (yE dC dI cI cJ cB adK adV adA h v i j a b sz)) (va_Ql (xR r2) (yB dC dI cI cJ cB h v i2 j2 a2 b2 (va_A (MW cI cJ cB h v i j a b) sz)) (va_A (MW cI cJ cB h v i j a b) sz)) 0 0 ((va_A (MW cI cJ cB h v i j a b) sz)) := by
  refine Met.ofW (cc := b_Model_applied) (maxL := 7) (ret := (some .long)) (by decide) rfl ?_
  intro p e s m args below meth c s₁ B hml hv
  obtain ⟨rfl, hsz, hP, hK, hE, hD0⟩ := hv
  have hx := B.exec
  have hb := B.bytes
  have hr := B.returns
  have hts := atoms_spec (ws := w_Model_applied) B.pre
  have htt : ∀ w ∈ tw_T, w.before _ s = true := fun w h => hts w (List.mem_cons_of_mem _ h)
  have hown : s.vm.findClass R_Model = some m.cls := findClass_of_methodNamed B.named
  have hlocks := B.notSynchronized
  subst hsz
  have hD := hD0.self (sz := s.heap.size)
  generalize hAe : (va_A (MW cI cJ cB h v i j a b) s.heap.size) = A at hD hE ⊢
  have hA : ∀ q : Nat, s.heap.size ≤ q → A q := fun q h => by rw [← hAe]; exact Or.inr h
  have hS : va_S A s.heap s.heap [] := va_S.rf
  have hl := lv_entry ([.ref h, .int v1, .int v2]) (n := 7) (Nat.le_of_ble_eq_true rfl)
  rw [lg_entry_eq]
  generalize (lg_sl ([.ref h, .int v1, .int v2]) ++ List.replicate (7 - (lg_sl ([.ref h, .int v1, .int v2])).length) Slot.unset).toArray = ls at hl ⊢
  have hl : lv_has ls 7 [(0, .ref h), (1, .int v1), (2, .int v2)] := hl
  rw [m_Model_applied] at hm
  refine lv_aload_n hx hb d_Model_applied_0 rfl (lv_at hl 0 rfl) ?_
  refine lv_iload_n hx hb d_Model_applied_1 rfl (lv_at hl 2 rfl) ?_
  refine lv_iload_n hx hb d_Model_applied_2 rfl (lv_at hl 1 rfl) ?_
  obtain ⟨r_2, h_1, hm⟩ := ob0_some hm
  have hFc := x_free0 hS hA
  refine va_callr (va_runS (As := [.int v1]) (rest := [.int v2, .ref h]) ⟨hx, hb, hml, hown, hts⟩ (x_Model_kinds l dC dI cI cJ cB adK adV adA h v s.heap.size n h_1) (va_cwS 1 hts (tw_GS tw_cons cw_Model_kinds lk_Model_706 st_Model_kinds ini_Model) rfl rfl rfl hd_Model_kinds (gR_fit (d + 1) (Nat.le_of_ble_eq_true rfl) (Nat.le_of_ble_eq_true rfl))) (ypSr hK hP hS hE hFc) rfl rfl hl.1 rfl (lv_room (Nat.le_of_ble_eq_true rfl)) d_Model_applied_3 ⟨Nat.le_of_ble_eq_true rfl, Nat.le_of_ble_eq_true rfl⟩) hS (fun q _ h => hFc q h) hFc (fun u9 q9 t9 H locs ht hvm e9 hB hz1 hk1 hS => ?_)
  have hB : q9 = adK r_2 := hB
  subst hB
  obtain ⟨hr_2, hm⟩ := ct_some hm
  replace hP := x_keep hP hk1
  clear hFc hk1 hz1 hvm ht
  obtain ⟨i_4, j_5, a_6, b_7, r_8, h_3, hm⟩ := om_some hm
  have hFc := x_free hD hS hA
  refine va_calli (va_runV (As := [.int v2, .ref ((adK r_2))]) (rest := []) ⟨hx, hb, hml, hown, hts⟩ (x_Model_fits l dC dI cI cJ cB adK adV adA h v H.size n h_3) (cwV 2 hts (tw_GV tw_cons cw_Model_fits lk_Model_710 in_Model_fits sel_Model_fits ini_Model) rfl rfl rfl ⟨rfl, hd_Model_fits⟩ (gR_fit (d + 1) (Nat.le_of_ble_eq_true rfl) (Nat.le_of_ble_eq_true rfl))) (ypV hK hP hD hS hE hFc yo_12 rfl) rfl rfl hl.1 rfl (lv_room (Nat.le_of_ble_eq_true rfl)) d_Model_applied_6 ⟨Nat.le_of_ble_eq_true rfl, Nat.le_of_ble_eq_true rfl⟩) hS (fun q _ h => hFc q h) hFc (fun r9 u9 t9 H locs ht hvm e9 hB hz1 hk1 hS => ?_)
  have e9 : r_8 = r9 := e9
  subst e9
  obtain ⟨hP, hD⟩ := y_aft hB ht hFc
  clear hFc hk1 hz1 hvm hB ht
  refine lv_if_ne (tgt := 16) hx hb d_Model_applied_9 (by decide) (fun c_9 => ?_) (fun c_9 => ?_)
  · replace hm := if_f c_9 hm
    refine lv_aload_n hx hb d_Model_applied_16 rfl (lv_at hl 0 rfl) ?_
    refine va_get (D := (dC, dI)) (ci := 12) (v := .ref ((v 111))) (C := R_Model) (T := F_Model) (N := 127) hx hb htt iw_Model hown hK hP 0 yo_12 rfl 111 (Nat.le_of_ble_eq_true rfl) (htt _ lk_Model_301) (fun _ h9 => h9) yg_111 d_Model_applied_17 ?_
    refine lv_iload_n hx hb d_Model_applied_20 rfl (lv_at hl 2 rfl) ?_
    obtain ⟨h_10, hm⟩ := ck_some hm
    refine va_lald hx hb hK hP 61 1 ya_111 rfl h_10 d_Model_applied_21 ?_
    refine lv_topl (fun x_11 ex_11 => ?_)
    replace hm := ob1_at ex_11 hm
    refine lv_lstore_n (lv' := [(3, .long x_11), (0, .ref h), (1, .int v1), (2, .int v2)]) hx hb d_Model_applied_22 rfl hl (by decide) rfl (fun ls hl => ?_)
    refine lv_aload_n hx hb d_Model_applied_23 rfl (lv_at hl 1 rfl) ?_
    refine va_get (D := (dC, dI)) (ci := 12) (v := .ref ((v 111))) (C := R_Model) (T := F_Model) (N := 127) hx hb htt iw_Model hown hK hP 0 yo_12 rfl 111 (Nat.le_of_ble_eq_true rfl) (htt _ lk_Model_301) (fun _ h9 => h9) yg_111 d_Model_applied_24 ?_
    refine lv_iload_n hx hb d_Model_applied_27 rfl (lv_at hl 3 rfl) ?_
    refine lv_iconst (v := 1) hx hb d_Model_applied_28 (by decide) ?_
    refine lv_iadd hx hb d_Model_applied_29 ?_
    obtain ⟨h_12, hm⟩ := ck_some hm
    refine va_lald hx hb hK hP 61 1 ya_111 rfl h_12 d_Model_applied_30 ?_
    refine lv_topl (fun x_13 ex_13 => ?_)
    replace hm := ob1_at ex_13 hm
    refine lv_lstore (lv' := [(5, .long x_13), (3, .long x_11), (0, .ref h), (1, .int v1), (2, .int v2)]) hx hb d_Model_applied_31 hl (by decide) rfl (fun ls hl => ?_)
    refine lv_iload_n hx hb d_Model_applied_33 rfl (lv_at hl 3 rfl) ?_
    refine lv_bipush (v := 18) hx hb d_Model_applied_34 (by decide) ?_
    refine lv_icmp_gt (tgt := 54) hx hb d_Model_applied_36 (by decide) (fun c_14 => ?_) (fun c_14 => ?_)
    · replace hm := if_t c_14 hm
      refine lv_iload_n hx hb d_Model_applied_54 rfl (lv_at hl 3 rfl) ?_
      refine lv_bipush (v := 31) hx hb d_Model_applied_55 (by decide) ?_
      refine lv_icmp_gt (tgt := 191) hx hb d_Model_applied_57 (by decide) (fun c_15 => ?_) (fun c_15 => ?_)
      · replace hm := if_t c_15 hm
        refine lv_iload_n hx hb d_Model_applied_191 rfl (lv_at hl 3 rfl) ?_
        refine lv_bipush (v := 48) hx hb d_Model_applied_192 (by decide) ?_
        refine lv_icmp_gt (tgt := 206) hx hb d_Model_applied_194 (by decide) (fun c_16 => ?_) (fun c_16 => ?_)
        · replace hm := if_t c_16 hm
          refine lv_iload_n hx hb d_Model_applied_206 rfl (lv_at hl 3 rfl) ?_
          refine lv_bipush (v := 55) hx hb d_Model_applied_207 (by decide) ?_
          refine lv_icmp_gt (tgt := 223) hx hb d_Model_applied_209 (by decide) (fun c_17 => ?_) (fun c_17 => ?_)
          · replace hm := if_t c_17 hm
            refine lv_aload_n hx hb d_Model_applied_223 rfl (lv_at hl 2 rfl) ?_
            refine lv_iload_n hx hb d_Model_applied_224 rfl (lv_at hl 3 rfl) ?_
            refine lv_lload_n hx hb d_Model_applied_225 rfl (lv_at hl 1 rfl) ?_
            refine lv_lload hx hb d_Model_applied_226 (lv_at hl 0 rfl) ?_
            refine lv_aload_n hx hb d_Model_applied_228 rfl (lv_at hl 2 rfl) ?_
            refine va_get (D := (dC, dI)) (ci := 12) (v := .ref ((v 111))) (C := R_Model) (T := F_Model) (N := 127) hx hb htt iw_Model hown hK hP 0 yo_12 rfl 111 (Nat.le_of_ble_eq_true rfl) (htt _ lk_Model_301) (fun _ h9 => h9) yg_111 d_Model_applied_229 ?_
            refine lv_iload_n hx hb d_Model_applied_232 rfl (lv_at hl 4 rfl) ?_
            refine lv_iconst (v := 2) hx hb d_Model_applied_233 (by decide) ?_
            refine lv_iadd hx hb d_Model_applied_234 ?_
            obtain ⟨h_18, hm⟩ := ck_some hm
            refine va_lald hx hb hK hP 61 1 ya_111 rfl h_18 d_Model_applied_235 ?_
            obtain ⟨i_20, j_21, a_22, b_23, r_24, h_19, hm⟩ := om_some hm
            have hFc := x_free hD hS hA
            refine va_calll (va_runV (As := [.int v1, .long x_11, .long x_13, .long (b_7 111 (v2 + 2).toNatClampNeg)]) (rest := []) ⟨hx, hb, hml, hown, hts⟩ (HG.2.2.2.2.2.1 H.size _ _ _ _ _ _ _ _ _ _ _ _ _ h_19) (cwV 4 hts (tw_GV tw_cons cw_Model_running lk_Model_734 in_Model_running sel_Model_running ini_Model) rfl rfl rfl ⟨rfl, hd_Model_running⟩ (gR_up (by decide))) (ypV hK hP hD hS hE hFc yo_12 rfl) rfl rfl hl.1 rfl (lv_room (Nat.le_of_ble_eq_true rfl)) d_Model_applied_236 ⟨Nat.le_of_ble_eq_true rfl, Nat.le_of_ble_eq_true rfl⟩) hS (fun q _ h => hFc q h) hFc (fun r9 u9 t9 H locs ht hvm e9 hB hz1 hk1 hS => ?_)
            have e9 : r_24 = r9 := e9
            subst e9
            obtain ⟨hP, hD⟩ := y_aft hB ht hFc
            clear hFc hk1 hz1 hvm hB ht
            obtain ⟨e1i, e1j, e1a, e1b, e3⟩ := re4m hm
            obtain ⟨hP, hD⟩ := y_eq e1i e1j e1a e1b hP hD
            exact W.lret hx hb hr (fun t9 ht hW => ⟨⟨_, (), rfl, e3.symm, by rw [ht]; exact hP, hD⟩, hS.F ht⟩) hS.2.2 d_Model_applied_239
          · replace hm := if_f c_17 hm
            refine lv_aload_n hx hb d_Model_applied_212 rfl (lv_at hl 2 rfl) ?_
            refine lv_iload_n hx hb d_Model_applied_213 rfl (lv_at hl 3 rfl) ?_
            refine lv_lload_n hx hb d_Model_applied_214 rfl (lv_at hl 1 rfl) ?_
            refine lv_lload hx hb d_Model_applied_215 (lv_at hl 0 rfl) ?_
            obtain ⟨i_26, j_27, a_28, b_29, r_30, h_25, hm⟩ := om_some hm
            have hFc := x_free hD hS hA
            refine va_calll (va_runV (As := [.int v1, .long x_11, .long x_13]) (rest := []) ⟨hx, hb, hml, hown, hts⟩ (x_Model_named l dC dI cI cJ cB adK adV adA h v H.size n h_25) (cwV 3 hts (tw_GV tw_cons cw_Model_named lk_Model_731 in_Model_named sel_Model_named ini_Model) rfl rfl rfl ⟨rfl, hd_Model_named⟩ (gR_fit (d + 1) (Nat.le_of_ble_eq_true rfl) (Nat.le_of_ble_eq_true rfl))) (ypV hK hP hD hS hE hFc yo_12 rfl) rfl rfl hl.1 rfl (lv_room (Nat.le_of_ble_eq_true rfl)) d_Model_applied_217 ⟨Nat.le_of_ble_eq_true rfl, Nat.le_of_ble_eq_true rfl⟩) hS (fun q _ h => hFc q h) hFc (fun r9 u9 t9 H locs ht hvm e9 hB hz1 hk1 hS => ?_)
            have e9 : r_30 = r9 := e9
            subst e9
            obtain ⟨hP, hD⟩ := y_aft hB ht hFc
            clear hFc hk1 hz1 hvm hB ht
            refine lv_goto (tgt := 239) hx hb d_Model_applied_220 (by decide) ?_
            obtain ⟨e1i, e1j, e1a, e1b, e3⟩ := re4m hm
            obtain ⟨hP, hD⟩ := y_eq e1i e1j e1a e1b hP hD
            exact W.lret hx hb hr (fun t9 ht hW => ⟨⟨_, (), rfl, e3.symm, by rw [ht]; exact hP, hD⟩, hS.F ht⟩) hS.2.2 d_Model_applied_239
        · replace hm := if_f c_16 hm
          refine lv_aload_n hx hb d_Model_applied_197 rfl (lv_at hl 2 rfl) ?_
          refine lv_iload_n hx hb d_Model_applied_198 rfl (lv_at hl 3 rfl) ?_
          refine lv_lload_n hx hb d_Model_applied_199 rfl (lv_at hl 1 rfl) ?_
          refine lv_lload hx hb d_Model_applied_200 (lv_at hl 0 rfl) ?_
          obtain ⟨i_32, j_33, a_34, b_35, r_36, h_31, hm⟩ := om_some hm
          have hFc := x_free hD hS hA
          refine va_calll (va_runV (As := [.int v1, .long x_11, .long x_13]) (rest := []) ⟨hx, hb, hml, hown, hts⟩ (x_Model_values l dC dI cI cJ cB adK adV adA h v H.size n h_31) (cwV 3 hts (tw_GV tw_cons cw_Model_values lk_Model_728 in_Model_values sel_Model_values ini_Model) rfl rfl rfl ⟨rfl, hd_Model_values⟩ (gR_fit (d + 1) (Nat.le_of_ble_eq_true rfl) (Nat.le_of_ble_eq_true rfl))) (ypV hK hP hD hS hE hFc yo_12 rfl) rfl rfl hl.1 rfl (lv_room (Nat.le_of_ble_eq_true rfl)) d_Model_applied_202 ⟨Nat.le_of_ble_eq_true rfl, Nat.le_of_ble_eq_true rfl⟩) hS (fun q _ h => hFc q h) hFc (fun r9 u9 t9 H locs ht hvm e9 hB hz1 hk1 hS => ?_)
          have e9 : r_36 = r9 := e9
          subst e9
          obtain ⟨hP, hD⟩ := y_aft hB ht hFc
          clear hFc hk1 hz1 hvm hB ht
          obtain ⟨e1i, e1j, e1a, e1b, e3⟩ := re4m hm
          obtain ⟨hP, hD⟩ := y_eq e1i e1j e1a e1b hP hD
          exact W.lret hx hb hr (fun t9 ht hW => ⟨⟨_, (), rfl, e3.symm, by rw [ht]; exact hP, hD⟩, hS.F ht⟩) hS.2.2 d_Model_applied_205
      · replace hm := if_f c_15 hm
        refine lv_iload_n hx hb d_Model_applied_60 rfl (lv_at hl 3 rfl) ?_
        refine lv_bipush (v := 31) hx hb d_Model_applied_61 (by decide) ?_
        refine lv_icmp_ne (tgt := 80) hx hb d_Model_applied_63 (by decide) (fun c_37 => ?_) (fun c_37 => ?_)
        · replace hm := if_f c_37 hm
          refine lv_iload_n hx hb d_Model_applied_80 rfl (lv_at hl 3 rfl) ?_
          refine lv_bipush (v := 28) hx hb d_Model_applied_81 (by decide) ?_
          refine lv_icmp_ne (tgt := 115) hx hb d_Model_applied_83 (by decide) (fun c_38 => ?_) (fun c_38 => ?_)
          · replace hm := if_f c_38 hm
            refine lv_iload_n hx hb d_Model_applied_115 rfl (lv_at hl 3 rfl) ?_
            refine lv_bipush (v := 29) hx hb d_Model_applied_116 (by decide) ?_
            refine lv_icmp_ne (tgt := 150) hx hb d_Model_applied_118 (by decide) (fun c_39 => ?_) (fun c_39 => ?_)
            · replace hm := if_f c_39 hm
              refine lv_iload_n hx hb d_Model_applied_150 rfl (lv_at hl 3 rfl) ?_
              refine lv_bipush (v := 30) hx hb d_Model_applied_151 (by decide) ?_
              refine lv_icmp_ne (tgt := 176) hx hb d_Model_applied_153 (by decide) (fun c_40 => ?_) (fun c_40 => ?_)
              · replace hm := if_f c_40 hm
                refine lv_aload_n hx hb d_Model_applied_176 rfl (lv_at hl 2 rfl) ?_
                refine lv_iload_n hx hb d_Model_applied_177 rfl (lv_at hl 3 rfl) ?_
                refine lv_lload_n hx hb d_Model_applied_178 rfl (lv_at hl 1 rfl) ?_
                obtain ⟨r_42, h_41, hm⟩ := ob0_some hm
                have hFc := x_free0 hS hA
                refine va_calli (va_runS (As := [.long x_11]) (rest := [.int v1, .ref h]) ⟨hx, hb, hml, hown, hts⟩ (x_Model_what l H.size n h_41) (va_cwS 1 hts (tw_GS tw_cons cw_Model_what lk_Model_64 st_Model_what ini_Model) rfl rfl rfl hd_Model_what (gR_fit (d + 1) (Nat.le_of_ble_eq_true rfl) (Nat.le_of_ble_eq_true rfl))) xpS0 rfl rfl hl.1 rfl (lv_room (Nat.le_of_ble_eq_true rfl)) d_Model_applied_179 ⟨Nat.le_of_ble_eq_true rfl, Nat.le_of_ble_eq_true rfl⟩) hS (fun q _ h => hFc q h) hFc (fun r9 u9 t9 H locs ht hvm e9 hB hz1 hk1 hS => ?_)
                have e9 : r_42 = r9 := e9
                subst e9
                replace hP := x_keep hP hk1
                clear hFc hk1 hz1 hvm hB ht
                refine lv_lload hx hb d_Model_applied_182 (lv_at hl 0 rfl) ?_
                obtain ⟨r_44, h_43, hm⟩ := ob0_some hm
                have hFc := x_free0 hS hA
                refine va_calli (va_runS (As := [.long x_13]) (rest := [.int r_42, .int v1, .ref h]) ⟨hx, hb, hml, hown, hts⟩ (x_Model_what l H.size n h_43) (va_cwS 1 hts (tw_GS tw_cons cw_Model_what lk_Model_64 st_Model_what ini_Model) rfl rfl rfl hd_Model_what (gR_fit (d + 1) (Nat.le_of_ble_eq_true rfl) (Nat.le_of_ble_eq_true rfl))) xpS0 rfl rfl hl.1 rfl (lv_room (Nat.le_of_ble_eq_true rfl)) d_Model_applied_184 ⟨Nat.le_of_ble_eq_true rfl, Nat.le_of_ble_eq_true rfl⟩) hS (fun q _ h => hFc q h) hFc (fun r9 u9 t9 H locs ht hvm e9 hB hz1 hk1 hS => ?_)
                have e9 : r_44 = r9 := e9
                subst e9
                replace hP := x_keep hP hk1
                clear hFc hk1 hz1 hvm hB ht
                obtain ⟨i_46, j_47, a_48, b_49, r_50, h_45, hm⟩ := om_some hm
                have hFc := x_free hD hS hA
                refine va_calll (va_runV (As := [.int v1, .int r_42, .int r_44]) (rest := []) ⟨hx, hb, hml, hown, hts⟩ (x_Model_numbers l dC dI cI cJ cB adK adV adA h v H.size n h_45) (cwV 3 hts (tw_GV tw_cons cw_Model_numbers lk_Model_725 in_Model_numbers sel_Model_numbers ini_Model) rfl rfl rfl ⟨rfl, hd_Model_numbers⟩ (gR_fit (d + 1) (Nat.le_of_ble_eq_true rfl) (Nat.le_of_ble_eq_true rfl))) (ypV hK hP hD hS hE hFc yo_12 rfl) rfl rfl hl.1 rfl (lv_room (Nat.le_of_ble_eq_true rfl)) d_Model_applied_187 ⟨Nat.le_of_ble_eq_true rfl, Nat.le_of_ble_eq_true rfl⟩) hS (fun q _ h => hFc q h) hFc (fun r9 u9 t9 H locs ht hvm e9 hB hz1 hk1 hS => ?_)
                have e9 : r_50 = r9 := e9
                subst e9
                obtain ⟨hP, hD⟩ := y_aft hB ht hFc
                clear hFc hk1 hz1 hvm hB ht
                obtain ⟨e1i, e1j, e1a, e1b, e3⟩ := re4m hm
                obtain ⟨hP, hD⟩ := y_eq e1i e1j e1a e1b hP hD
                exact W.lret hx hb hr (fun t9 ht hW => ⟨⟨_, (), rfl, e3.symm, by rw [ht]; exact hP, hD⟩, hS.F ht⟩) hS.2.2 d_Model_applied_190
              · replace hm := if_t c_40 hm
                refine lv_aload_n hx hb d_Model_applied_156 rfl (lv_at hl 2 rfl) ?_
                refine lv_aload_n hx hb d_Model_applied_157 rfl (lv_at hl 2 rfl) ?_
                refine lv_lload_n hx hb d_Model_applied_158 rfl (lv_at hl 1 rfl) ?_
                obtain ⟨r_52, h_51, hm⟩ := ob0_some hm
                have hFc := x_free0 hS hA
                refine va_calli (va_runV (As := [.long x_11]) (rest := [.ref h]) ⟨hx, hb, hml, hown, hts⟩ (x_Model_isTrue l dC dI cI cJ cB adK adV adA h v H.size n h_51) (cwV 1 hts (tw_GV tw_cons cw_Model_isTrue lk_Model_662 in_Model_isTrue sel_Model_isTrue ini_Model) rfl rfl rfl ⟨rfl, hd_Model_isTrue⟩ (gR_fit (d + 1) (Nat.le_of_ble_eq_true rfl) (Nat.le_of_ble_eq_true rfl))) (ypVr hK hP hS hE hFc yo_12 rfl) rfl rfl hl.1 rfl (lv_room (Nat.le_of_ble_eq_true rfl)) d_Model_applied_159 ⟨Nat.le_of_ble_eq_true rfl, Nat.le_of_ble_eq_true rfl⟩) hS (fun q _ h => hFc q h) hFc (fun r9 u9 t9 H locs ht hvm e9 hB hz1 hk1 hS => ?_)
                have e9 : r_52 = r9 := e9
                subst e9
                replace hP := x_keep hP hk1
                clear hFc hk1 hz1 hvm hB ht
                refine lv_if_ne (tgt := 169) hx hb d_Model_applied_162 (by decide) (fun c_53 => ?_) (fun c_53 => ?_)
                · replace hm := if_f c_53 hm
                  refine lv_iconst (v := 0) hx hb d_Model_applied_169 (by decide) ?_
                  obtain ⟨r_55, h_54, hm⟩ := ob0_some hm
                  have hFc := x_free0 hS hA
                  refine va_calll (va_runV (As := [.int 0]) (rest := []) ⟨hx, hb, hml, hown, hts⟩ (x_Model_truth l dC dI cI cJ cB adK adV adA h v H.size n h_54) (cwV 1 hts (tw_GV tw_cons cw_Model_truth lk_Model_721 in_Model_truth sel_Model_truth ini_Model) rfl rfl rfl ⟨rfl, hd_Model_truth⟩ (gR_fit (d + 1) (Nat.le_of_ble_eq_true rfl) (Nat.le_of_ble_eq_true rfl))) (ypVr hK hP hS hE hFc yo_12 rfl) rfl rfl hl.1 rfl (lv_room (Nat.le_of_ble_eq_true rfl)) d_Model_applied_170 ⟨Nat.le_of_ble_eq_true rfl, Nat.le_of_ble_eq_true rfl⟩) hS (fun q _ h => hFc q h) hFc (fun r9 u9 t9 H locs ht hvm e9 hB hz1 hk1 hS => ?_)
                  have e9 : r_55 = r9 := e9
                  subst e9
                  replace hP := x_keep hP hk1
                  clear hFc hk1 hz1 hvm hB ht
                  refine lv_goto (tgt := 190) hx hb d_Model_applied_173 (by decide) ?_
                  obtain ⟨e1i, e1j, e1a, e1b, e3⟩ := re4m hm
                  obtain ⟨hP, hD⟩ := y_eq e1i e1j e1a e1b hP hD
                  exact W.lret hx hb hr (fun t9 ht hW => ⟨⟨_, (), rfl, e3.symm, by rw [ht]; exact hP, hD⟩, hS.F ht⟩) hS.2.2 d_Model_applied_190
                · replace hm := if_t c_53 hm
                  refine lv_iconst (v := 1) hx hb d_Model_applied_165 (by decide) ?_
                  refine lv_goto (tgt := 170) hx hb d_Model_applied_166 (by decide) ?_
                  obtain ⟨r_57, h_56, hm⟩ := ob0_some hm
                  have hFc := x_free0 hS hA
                  refine va_calll (va_runV (As := [.int 1]) (rest := []) ⟨hx, hb, hml, hown, hts⟩ (x_Model_truth l dC dI cI cJ cB adK adV adA h v H.size n h_56) (cwV 1 hts (tw_GV tw_cons cw_Model_truth lk_Model_721 in_Model_truth sel_Model_truth ini_Model) rfl rfl rfl ⟨rfl, hd_Model_truth⟩ (gR_fit (d + 1) (Nat.le_of_ble_eq_true rfl) (Nat.le_of_ble_eq_true rfl))) (ypVr hK hP hS hE hFc yo_12 rfl) rfl rfl hl.1 rfl (lv_room (Nat.le_of_ble_eq_true rfl)) d_Model_applied_170 ⟨Nat.le_of_ble_eq_true rfl, Nat.le_of_ble_eq_true rfl⟩) hS (fun q _ h => hFc q h) hFc (fun r9 u9 t9 H locs ht hvm e9 hB hz1 hk1 hS => ?_)
                  have e9 : r_57 = r9 := e9
                  subst e9
                  replace hP := x_keep hP hk1
                  clear hFc hk1 hz1 hvm hB ht
                  refine lv_goto (tgt := 190) hx hb d_Model_applied_173 (by decide) ?_
                  obtain ⟨e1i, e1j, e1a, e1b, e3⟩ := re4m hm
                  obtain ⟨hP, hD⟩ := y_eq e1i e1j e1a e1b hP hD
                  exact W.lret hx hb hr (fun t9 ht hW => ⟨⟨_, (), rfl, e3.symm, by rw [ht]; exact hP, hD⟩, hS.F ht⟩) hS.2.2 d_Model_applied_190
            · replace hm := if_t c_39 hm
              refine lv_aload_n hx hb d_Model_applied_121 rfl (lv_at hl 2 rfl) ?_
              refine lv_aload_n hx hb d_Model_applied_122 rfl (lv_at hl 2 rfl) ?_
              refine lv_lload_n hx hb d_Model_applied_123 rfl (lv_at hl 1 rfl) ?_
              obtain ⟨r_59, h_58, hm⟩ := ob0_some hm
              have hFc := x_free0 hS hA
              refine va_calli (va_runV (As := [.long x_11]) (rest := [.ref h]) ⟨hx, hb, hml, hown, hts⟩ (x_Model_isTrue l dC dI cI cJ cB adK adV adA h v H.size n h_58) (cwV 1 hts (tw_GV tw_cons cw_Model_isTrue lk_Model_662 in_Model_isTrue sel_Model_isTrue ini_Model) rfl rfl rfl ⟨rfl, hd_Model_isTrue⟩ (gR_fit (d + 1) (Nat.le_of_ble_eq_true rfl) (Nat.le_of_ble_eq_true rfl))) (ypVr hK hP hS hE hFc yo_12 rfl) rfl rfl hl.1 rfl (lv_room (Nat.le_of_ble_eq_true rfl)) d_Model_applied_124 ⟨Nat.le_of_ble_eq_true rfl, Nat.le_of_ble_eq_true rfl⟩) hS (fun q _ h => hFc q h) hFc (fun r9 u9 t9 H locs ht hvm e9 hB hz1 hk1 hS => ?_)
              have e9 : r_59 = r9 := e9
              subst e9
              replace hP := x_keep hP hk1
              clear hFc hk1 hz1 hvm hB ht
              refine lv_if_ne (tgt := 139) hx hb d_Model_applied_127 (by decide) (fun c_60 => ?_) (fun c_60 => ?_)
              · replace hm := if_f c_60 hm
                exact lb_Model_applied_139 d G l dC dI cI cJ cB adK adV adA h v n HG hx hb hml hown hts hK hE hA hr hlocks _ _ _ _ hm _ _ _ hP hD hS (lv_sub hl [] rfl)
              · replace hm := if_t c_60 hm
                refine lv_aload_n hx hb d_Model_applied_130 rfl (lv_at hl 2 rfl) ?_
                refine lv_lload hx hb d_Model_applied_131 (lv_at hl 0 rfl) ?_
                obtain ⟨r_62, h_61, hm⟩ := ob0_some hm
                have hFc := x_free0 hS hA
                refine va_calli (va_runV (As := [.long x_13]) (rest := [.ref h]) ⟨hx, hb, hml, hown, hts⟩ (x_Model_isTrue l dC dI cI cJ cB adK adV adA h v H.size n h_61) (cwV 1 hts (tw_GV tw_cons cw_Model_isTrue lk_Model_662 in_Model_isTrue sel_Model_isTrue ini_Model) rfl rfl rfl ⟨rfl, hd_Model_isTrue⟩ (gR_fit (d + 1) (Nat.le_of_ble_eq_true rfl) (Nat.le_of_ble_eq_true rfl))) (ypVr hK hP hS hE hFc yo_12 rfl) rfl rfl hl.1 rfl (lv_room (Nat.le_of_ble_eq_true rfl)) d_Model_applied_133 ⟨Nat.le_of_ble_eq_true rfl, Nat.le_of_ble_eq_true rfl⟩) hS (fun q _ h => hFc q h) hFc (fun r9 u9 t9 H locs ht hvm e9 hB hz1 hk1 hS => ?_)
                have e9 : r_62 = r9 := e9
                subst e9
                replace hP := x_keep hP hk1
                clear hFc hk1 hz1 hvm hB ht
                refine lv_if_eq (tgt := 143) hx hb d_Model_applied_136 (by decide) (fun c_63 => ?_) (fun c_63 => ?_)
                · replace hm := if_t c_63 hm
                  refine lv_iconst (v := 0) hx hb d_Model_applied_143 (by decide) ?_
                  obtain ⟨r_65, h_64, hm⟩ := ob0_some hm
                  have hFc := x_free0 hS hA
                  refine va_calll (va_runV (As := [.int 0]) (rest := []) ⟨hx, hb, hml, hown, hts⟩ (x_Model_truth l dC dI cI cJ cB adK adV adA h v H.size n h_64) (cwV 1 hts (tw_GV tw_cons cw_Model_truth lk_Model_721 in_Model_truth sel_Model_truth ini_Model) rfl rfl rfl ⟨rfl, hd_Model_truth⟩ (gR_fit (d + 1) (Nat.le_of_ble_eq_true rfl) (Nat.le_of_ble_eq_true rfl))) (ypVr hK hP hS hE hFc yo_12 rfl) rfl rfl hl.1 rfl (lv_room (Nat.le_of_ble_eq_true rfl)) d_Model_applied_144 ⟨Nat.le_of_ble_eq_true rfl, Nat.le_of_ble_eq_true rfl⟩) hS (fun q _ h => hFc q h) hFc (fun r9 u9 t9 H locs ht hvm e9 hB hz1 hk1 hS => ?_)
                  have e9 : r_65 = r9 := e9
                  subst e9
                  replace hP := x_keep hP hk1
                  clear hFc hk1 hz1 hvm hB ht
                  refine lv_goto (tgt := 190) hx hb d_Model_applied_147 (by decide) ?_
                  obtain ⟨e1i, e1j, e1a, e1b, e3⟩ := re4m hm
                  obtain ⟨hP, hD⟩ := y_eq e1i e1j e1a e1b hP hD
                  exact W.lret hx hb hr (fun t9 ht hW => ⟨⟨_, (), rfl, e3.symm, by rw [ht]; exact hP, hD⟩, hS.F ht⟩) hS.2.2 d_Model_applied_190
                · replace hm := if_f c_63 hm
                  exact lb_Model_applied_139 d G l dC dI cI cJ cB adK adV adA h v n HG hx hb hml hown hts hK hE hA hr hlocks _ _ _ _ hm _ _ _ hP hD hS (lv_sub hl [] rfl)
          · replace hm := if_t c_38 hm
            refine lv_aload_n hx hb d_Model_applied_86 rfl (lv_at hl 2 rfl) ?_
            refine lv_aload_n hx hb d_Model_applied_87 rfl (lv_at hl 2 rfl) ?_
            refine lv_lload_n hx hb d_Model_applied_88 rfl (lv_at hl 1 rfl) ?_
            obtain ⟨r_67, h_66, hm⟩ := ob0_some hm
            have hFc := x_free0 hS hA
            refine va_calli (va_runV (As := [.long x_11]) (rest := [.ref h]) ⟨hx, hb, hml, hown, hts⟩ (x_Model_isTrue l dC dI cI cJ cB adK adV adA h v H.size n h_66) (cwV 1 hts (tw_GV tw_cons cw_Model_isTrue lk_Model_662 in_Model_isTrue sel_Model_isTrue ini_Model) rfl rfl rfl ⟨rfl, hd_Model_isTrue⟩ (gR_fit (d + 1) (Nat.le_of_ble_eq_true rfl) (Nat.le_of_ble_eq_true rfl))) (ypVr hK hP hS hE hFc yo_12 rfl) rfl rfl hl.1 rfl (lv_room (Nat.le_of_ble_eq_true rfl)) d_Model_applied_89 ⟨Nat.le_of_ble_eq_true rfl, Nat.le_of_ble_eq_true rfl⟩) hS (fun q _ h => hFc q h) hFc (fun r9 u9 t9 H locs ht hvm e9 hB hz1 hk1 hS => ?_)
            have e9 : r_67 = r9 := e9
            subst e9
            replace hP := x_keep hP hk1
            clear hFc hk1 hz1 hvm hB ht
            refine lv_if_eq (tgt := 108) hx hb d_Model_applied_92 (by decide) (fun c_68 => ?_) (fun c_68 => ?_)
            · replace hm := if_t c_68 hm
              refine lv_iconst (v := 0) hx hb d_Model_applied_108 (by decide) ?_
              obtain ⟨r_70, h_69, hm⟩ := ob0_some hm
              have hFc := x_free0 hS hA
              refine va_calll (va_runV (As := [.int 0]) (rest := []) ⟨hx, hb, hml, hown, hts⟩ (x_Model_truth l dC dI cI cJ cB adK adV adA h v H.size n h_69) (cwV 1 hts (tw_GV tw_cons cw_Model_truth lk_Model_721 in_Model_truth sel_Model_truth ini_Model) rfl rfl rfl ⟨rfl, hd_Model_truth⟩ (gR_fit (d + 1) (Nat.le_of_ble_eq_true rfl) (Nat.le_of_ble_eq_true rfl))) (ypVr hK hP hS hE hFc yo_12 rfl) rfl rfl hl.1 rfl (lv_room (Nat.le_of_ble_eq_true rfl)) d_Model_applied_109 ⟨Nat.le_of_ble_eq_true rfl, Nat.le_of_ble_eq_true rfl⟩) hS (fun q _ h => hFc q h) hFc (fun r9 u9 t9 H locs ht hvm e9 hB hz1 hk1 hS => ?_)
              have e9 : r_70 = r9 := e9
              subst e9
              replace hP := x_keep hP hk1
              clear hFc hk1 hz1 hvm hB ht
              refine lv_goto (tgt := 190) hx hb d_Model_applied_112 (by decide) ?_
              obtain ⟨e1i, e1j, e1a, e1b, e3⟩ := re4m hm
              obtain ⟨hP, hD⟩ := y_eq e1i e1j e1a e1b hP hD
              exact W.lret hx hb hr (fun t9 ht hW => ⟨⟨_, (), rfl, e3.symm, by rw [ht]; exact hP, hD⟩, hS.F ht⟩) hS.2.2 d_Model_applied_190
            · replace hm := if_f c_68 hm
              refine lv_aload_n hx hb d_Model_applied_95 rfl (lv_at hl 2 rfl) ?_
              refine lv_lload hx hb d_Model_applied_96 (lv_at hl 0 rfl) ?_
              obtain ⟨r_72, h_71, hm⟩ := ob0_some hm
              have hFc := x_free0 hS hA
              refine va_calli (va_runV (As := [.long x_13]) (rest := [.ref h]) ⟨hx, hb, hml, hown, hts⟩ (x_Model_isTrue l dC dI cI cJ cB adK adV adA h v H.size n h_71) (cwV 1 hts (tw_GV tw_cons cw_Model_isTrue lk_Model_662 in_Model_isTrue sel_Model_isTrue ini_Model) rfl rfl rfl ⟨rfl, hd_Model_isTrue⟩ (gR_fit (d + 1) (Nat.le_of_ble_eq_true rfl) (Nat.le_of_ble_eq_true rfl))) (ypVr hK hP hS hE hFc yo_12 rfl) rfl rfl hl.1 rfl (lv_room (Nat.le_of_ble_eq_true rfl)) d_Model_applied_98 ⟨Nat.le_of_ble_eq_true rfl, Nat.le_of_ble_eq_true rfl⟩) hS (fun q _ h => hFc q h) hFc (fun r9 u9 t9 H locs ht hvm e9 hB hz1 hk1 hS => ?_)
              have e9 : r_72 = r9 := e9
              subst e9
              replace hP := x_keep hP hk1
              clear hFc hk1 hz1 hvm hB ht
              refine lv_if_eq (tgt := 108) hx hb d_Model_applied_101 (by decide) (fun c_73 => ?_) (fun c_73 => ?_)
              · replace hm := if_t c_73 hm
                refine lv_iconst (v := 0) hx hb d_Model_applied_108 (by decide) ?_
                obtain ⟨r_75, h_74, hm⟩ := ob0_some hm
                have hFc := x_free0 hS hA
                refine va_calll (va_runV (As := [.int 0]) (rest := []) ⟨hx, hb, hml, hown, hts⟩ (x_Model_truth l dC dI cI cJ cB adK adV adA h v H.size n h_74) (cwV 1 hts (tw_GV tw_cons cw_Model_truth lk_Model_721 in_Model_truth sel_Model_truth ini_Model) rfl rfl rfl ⟨rfl, hd_Model_truth⟩ (gR_fit (d + 1) (Nat.le_of_ble_eq_true rfl) (Nat.le_of_ble_eq_true rfl))) (ypVr hK hP hS hE hFc yo_12 rfl) rfl rfl hl.1 rfl (lv_room (Nat.le_of_ble_eq_true rfl)) d_Model_applied_109 ⟨Nat.le_of_ble_eq_true rfl, Nat.le_of_ble_eq_true rfl⟩) hS (fun q _ h => hFc q h) hFc (fun r9 u9 t9 H locs ht hvm e9 hB hz1 hk1 hS => ?_)
                have e9 : r_75 = r9 := e9
                subst e9
                replace hP := x_keep hP hk1
                clear hFc hk1 hz1 hvm hB ht
                refine lv_goto (tgt := 190) hx hb d_Model_applied_112 (by decide) ?_
                obtain ⟨e1i, e1j, e1a, e1b, e3⟩ := re4m hm
                obtain ⟨hP, hD⟩ := y_eq e1i e1j e1a e1b hP hD
                exact W.lret hx hb hr (fun t9 ht hW => ⟨⟨_, (), rfl, e3.symm, by rw [ht]; exact hP, hD⟩, hS.F ht⟩) hS.2.2 d_Model_applied_190
              · replace hm := if_f c_73 hm
                refine lv_iconst (v := 1) hx hb d_Model_applied_104 (by decide) ?_
                refine lv_goto (tgt := 109) hx hb d_Model_applied_105 (by decide) ?_
                obtain ⟨r_77, h_76, hm⟩ := ob0_some hm
                have hFc := x_free0 hS hA
                refine va_calll (va_runV (As := [.int 1]) (rest := []) ⟨hx, hb, hml, hown, hts⟩ (x_Model_truth l dC dI cI cJ cB adK adV adA h v H.size n h_76) (cwV 1 hts (tw_GV tw_cons cw_Model_truth lk_Model_721 in_Model_truth sel_Model_truth ini_Model) rfl rfl rfl ⟨rfl, hd_Model_truth⟩ (gR_fit (d + 1) (Nat.le_of_ble_eq_true rfl) (Nat.le_of_ble_eq_true rfl))) (ypVr hK hP hS hE hFc yo_12 rfl) rfl rfl hl.1 rfl (lv_room (Nat.le_of_ble_eq_true rfl)) d_Model_applied_109 ⟨Nat.le_of_ble_eq_true rfl, Nat.le_of_ble_eq_true rfl⟩) hS (fun q _ h => hFc q h) hFc (fun r9 u9 t9 H locs ht hvm e9 hB hz1 hk1 hS => ?_)
                have e9 : r_77 = r9 := e9
                subst e9
                replace hP := x_keep hP hk1
                clear hFc hk1 hz1 hvm hB ht
                refine lv_goto (tgt := 190) hx hb d_Model_applied_112 (by decide) ?_
                obtain ⟨e1i, e1j, e1a, e1b, e3⟩ := re4m hm
                obtain ⟨hP, hD⟩ := y_eq e1i e1j e1a e1b hP hD
                exact W.lret hx hb hr (fun t9 ht hW => ⟨⟨_, (), rfl, e3.symm, by rw [ht]; exact hP, hD⟩, hS.F ht⟩) hS.2.2 d_Model_applied_190
        · replace hm := if_t c_37 hm
          refine lv_aload_n hx hb d_Model_applied_66 rfl (lv_at hl 2 rfl) ?_
          refine lv_aload_n hx hb d_Model_applied_67 rfl (lv_at hl 2 rfl) ?_
          refine lv_lload_n hx hb d_Model_applied_68 rfl (lv_at hl 1 rfl) ?_
          refine lv_lload hx hb d_Model_applied_69 (lv_at hl 0 rfl) ?_
          obtain ⟨i_79, j_80, a_81, b_82, r_83, h_78, hm⟩ := om_some hm
          have hFc := x_free hD hS hA
          refine va_calli (va_runV (As := [.long x_11, .long x_13]) (rest := [.ref h]) ⟨hx, hb, hml, hown, hts⟩ (x_Model_equal l dC dI cI cJ cB adK adV adA h v H.size n h_78) (cwV 2 hts (tw_GV tw_cons cw_Model_equal lk_Model_717 in_Model_equal sel_Model_equal ini_Model) rfl rfl rfl ⟨rfl, hd_Model_equal⟩ (gR_fit (d + 1) (Nat.le_of_ble_eq_true rfl) (Nat.le_of_ble_eq_true rfl))) (ypV hK hP hD hS hE hFc yo_12 rfl) rfl rfl hl.1 rfl (lv_room (Nat.le_of_ble_eq_true rfl)) d_Model_applied_71 ⟨Nat.le_of_ble_eq_true rfl, Nat.le_of_ble_eq_true rfl⟩) hS (fun q _ h => hFc q h) hFc (fun r9 u9 t9 H locs ht hvm e9 hB hz1 hk1 hS => ?_)
          have e9 : r_83 = r9 := e9
          subst e9
          obtain ⟨hP, hD⟩ := y_aft hB ht hFc
          clear hFc hk1 hz1 hvm hB ht
          obtain ⟨r_85, h_84, hm⟩ := ob0_some hm
          have hFc := x_free0 hS hA
          refine va_calll (va_runV (As := [.int r_83]) (rest := []) ⟨hx, hb, hml, hown, hts⟩ (x_Model_truth l dC dI cI cJ cB adK adV adA h v H.size n h_84) (cwV 1 hts (tw_GV tw_cons cw_Model_truth lk_Model_721 in_Model_truth sel_Model_truth ini_Model) rfl rfl rfl ⟨rfl, hd_Model_truth⟩ (gR_fit (d + 1) (Nat.le_of_ble_eq_true rfl) (Nat.le_of_ble_eq_true rfl))) (ypVr hK hP hS hE hFc yo_12 rfl) rfl rfl hl.1 rfl (lv_room (Nat.le_of_ble_eq_true rfl)) d_Model_applied_74 ⟨Nat.le_of_ble_eq_true rfl, Nat.le_of_ble_eq_true rfl⟩) hS (fun q _ h => hFc q h) hFc (fun r9 u9 t9 H locs ht hvm e9 hB hz1 hk1 hS => ?_)
          have e9 : r_85 = r9 := e9
          subst e9
          replace hP := x_keep hP hk1
          clear hFc hk1 hz1 hvm hB ht
          refine lv_goto (tgt := 190) hx hb d_Model_applied_77 (by decide) ?_
          obtain ⟨e1i, e1j, e1a, e1b, e3⟩ := re4m hm
          obtain ⟨hP, hD⟩ := y_eq e1i e1j e1a e1b hP hD
          exact W.lret hx hb hr (fun t9 ht hW => ⟨⟨_, (), rfl, e3.symm, by rw [ht]; exact hP, hD⟩, hS.F ht⟩) hS.2.2 d_Model_applied_190
    · replace hm := if_f c_14 hm
      refine lv_aload_n hx hb d_Model_applied_39 rfl (lv_at hl 2 rfl) ?_
      refine lv_iload_n hx hb d_Model_applied_40 rfl (lv_at hl 3 rfl) ?_
      refine lv_lload_n hx hb d_Model_applied_41 rfl (lv_at hl 1 rfl) ?_
      obtain ⟨r_87, h_86, hm⟩ := ob0_some hm
      have hFc := x_free0 hS hA
      refine va_calli (va_runS (As := [.long x_11]) (rest := [.int v1, .ref h]) ⟨hx, hb, hml, hown, hts⟩ (x_Model_what l H.size n h_86) (va_cwS 1 hts (tw_GS tw_cons cw_Model_what lk_Model_64 st_Model_what ini_Model) rfl rfl rfl hd_Model_what (gR_fit (d + 1) (Nat.le_of_ble_eq_true rfl) (Nat.le_of_ble_eq_true rfl))) xpS0 rfl rfl hl.1 rfl (lv_room (Nat.le_of_ble_eq_true rfl)) d_Model_applied_42 ⟨Nat.le_of_ble_eq_true rfl, Nat.le_of_ble_eq_true rfl⟩) hS (fun q _ h => hFc q h) hFc (fun r9 u9 t9 H locs ht hvm e9 hB hz1 hk1 hS => ?_)
      have e9 : r_87 = r9 := e9
      subst e9
      replace hP := x_keep hP hk1
      clear hFc hk1 hz1 hvm hB ht
      refine lv_lload hx hb d_Model_applied_45 (lv_at hl 0 rfl) ?_
      obtain ⟨r_89, h_88, hm⟩ := ob0_some hm
      have hFc := x_free0 hS hA
      refine va_calli (va_runS (As := [.long x_13]) (rest := [.int r_87, .int v1, .ref h]) ⟨hx, hb, hml, hown, hts⟩ (x_Model_what l H.size n h_88) (va_cwS 1 hts (tw_GS tw_cons cw_Model_what lk_Model_64 st_Model_what ini_Model) rfl rfl rfl hd_Model_what (gR_fit (d + 1) (Nat.le_of_ble_eq_true rfl) (Nat.le_of_ble_eq_true rfl))) xpS0 rfl rfl hl.1 rfl (lv_room (Nat.le_of_ble_eq_true rfl)) d_Model_applied_47 ⟨Nat.le_of_ble_eq_true rfl, Nat.le_of_ble_eq_true rfl⟩) hS (fun q _ h => hFc q h) hFc (fun r9 u9 t9 H locs ht hvm e9 hB hz1 hk1 hS => ?_)
      have e9 : r_89 = r9 := e9
      subst e9
      replace hP := x_keep hP hk1
      clear hFc hk1 hz1 hvm hB ht
      obtain ⟨i_91, j_92, a_93, b_94, r_95, h_90, hm⟩ := om_some hm
      have hFc := x_free hD hS hA
      refine va_calll (va_runV (As := [.int v1, .int r_87, .int r_89]) (rest := []) ⟨hx, hb, hml, hown, hts⟩ (x_Model_turtles l dC dI cI cJ cB adK adV adA h v H.size n h_90) (cwV 3 hts (tw_GV tw_cons cw_Model_turtles lk_Model_713 in_Model_turtles sel_Model_turtles ini_Model) rfl rfl rfl ⟨rfl, hd_Model_turtles⟩ (gR_fit (d + 1) (Nat.le_of_ble_eq_true rfl) (Nat.le_of_ble_eq_true rfl))) (ypV hK hP hD hS hE hFc yo_12 rfl) rfl rfl hl.1 rfl (lv_room (Nat.le_of_ble_eq_true rfl)) d_Model_applied_50 ⟨Nat.le_of_ble_eq_true rfl, Nat.le_of_ble_eq_true rfl⟩) hS (fun q _ h => hFc q h) hFc (fun r9 u9 t9 H locs ht hvm e9 hB hz1 hk1 hS => ?_)
      have e9 : r_95 = r9 := e9
      subst e9
      obtain ⟨hP, hD⟩ := y_aft hB ht hFc
      clear hFc hk1 hz1 hvm hB ht
      obtain ⟨e1i, e1j, e1a, e1b, e3⟩ := re4m hm
      obtain ⟨hP, hD⟩ := y_eq e1i e1j e1a e1b hP hD
      exact W.lret hx hb hr (fun t9 ht hW => ⟨⟨_, (), rfl, e3.symm, by rw [ht]; exact hP, hD⟩, hS.F ht⟩) hS.2.2 d_Model_applied_53
  · replace hm := if_t c_9 hm
    refine lv_ldc2 (v := 3) hx hb hown (htt _ lk_Model_7) d_Model_applied_12 ?_
    obtain ⟨e1i, e1j, e1a, e1b, e3⟩ := re4m hm
    obtain ⟨hP, hD⟩ := y_eq e1i e1j e1a e1b hP hD
    exact W.lret hx hb hr (fun t9 ht hW => ⟨⟨_, (), rfl, e3.symm, by rw [ht]; exact hP, hD⟩, hS.F ht⟩) hS.2.2 d_Model_applied_15

def m_Model_running_b410 (n : Nat) (G : GB) : Nat → (Nat → Int32) → (Nat → Int64) → (Nat → Nat → Int32) → (Nat → Nat → Int64) → Int32 → Int32 → Option ((Nat → Int32) × (Nat → Int64) × (Nat → Nat → Int32) × (Nat → Nat → Int64) × Int64)
  | 0, _, _, _, _, _, _ => none
  | f + 1, i, j, a, b, v1, v8 => if ((i 25)) ≤ v8 then if v1 = ((73 : Int32)) then some (i, j, a, b, 3) else om (m_Model_tellOut n i j a b (10 : Int32)) (fun i_4 j_5 a_6 b_7 r_8 => some (i_4, j_5, a_6, b_7, 3)) else ck v8 40000 (om (m_Model_tellOut n i j a b (a 24 v8.toNatClampNeg)) (fun i_11 j_12 a_13 b_14 r_15 => ob1 (v8 + 1 : Int32) (fun x_16 => m_Model_running_b410 n G f i_11 j_12 a_13 b_14 v1 x_16)))
set_option maxHeartbeats 4000000 in
set_option maxRecDepth 100000 in
theorem lb_Model_running_410 (d : Nat) (G : GB) (l : Launch) (dC : Nat → ClassId) (dI : Nat → Nat → Nat) (cI cJ cB : ClassId) (adK adV adA : Nat → Nat) (h : Nat) (v : Nat → Nat) (n : Nat) (HG : GH l dC dI cI cJ cB adK adV adA h v n G d) {p : Program} {e : Env} {s : State} {m : MethodId} {args : Array Value} {below : List Frame} {meth : Method} {c : Code} {A : Nat → Prop} (hx : p.tables.exec = Jvm.exec) (hb : c.code = b_Model_running) (hml : c.maxLocals = 9) (hown : s.vm.findClass R_Model = some m.cls) (hts : ∀ w ∈ w_Model_running, w.before args s = true) (hK : va_K (dC, dI) classes [(cI, .int), (cJ, .long), (cB, .byte)] s) (hE : tw_E adK adV adA A s s.heap) (hA : ∀ q : Nat, s.heap.size ≤ q → A q) (hr : meth.sig.returnType = (some .long)) (hlocks : meth.locks = false) {i2 : Nat → Int32} {j2 : Nat → Int64} {a2 : Nat → Nat → Int32} {b2 : Nat → Nat → Int64} {r2 : Int64} : ∀ (f : Nat) (i : Nat → Int32) (j : Nat → Int64) (a : Nat → Nat → Int32) (b : Nat → Nat → Int64) (v1 : Int32) (v8 : Int32), m_Model_running_b410 n G f i j a b v1 v8 = some (i2, j2, a2, b2, r2) → ∀ (H : Heap) (locs : List Loc) (ls : Array Slot), va_P (dC, dI) classes (MW cI cJ cB h v i j a b) H → va_D A (MW cI cJ cB h v i j a b) → va_S A s.heap H locs → lv_has ls 9 [(0, .ref h), (1, .int v1), (8, .int v8)] → W p l e (gR (d + 1)) s m args below meth c H locs 0 0 (MQ below (va_Ql (xR r2) (yB dC dI cI cJ cB h v i2 j2 a2 b2 A) A) args s 0 0 A) (F0 m 410 ls []) := by
  have htt : ∀ w ∈ tw_T, w.before _ s = true := fun w h => hts w (List.mem_cons_of_mem _ h)
  intro f
  induction f with
  | zero =>
    intro i j a b v1 v8 hm
    rw [m_Model_running_b410] at hm
    cases hm
  | succ f ih =>
    intro i j a b v1 v8 hm H locs ls hP hD hS hl
    rw [m_Model_running_b410] at hm
    refine lv_iload hx hb d_Model_running_410 (lv_at hl 2 rfl) ?_
    refine lv_aload_n hx hb d_Model_running_412 rfl (lv_at hl 0 rfl) ?_
    refine va_get (D := (dC, dI)) (ci := 12) (v := .int (i 25)) (C := R_Model) (T := F_Model) (N := 127) hx hb htt iw_Model hown hK hP 0 yo_12 rfl 25 (Nat.le_of_ble_eq_true rfl) (htt _ lk_Model_108) (fun _ h9 => h9) yg_25 d_Model_running_413 ?_
    refine lv_icmp_ge (tgt := 436) hx hb d_Model_running_416 (by decide) (fun c_1 => ?_) (fun c_1 => ?_)
    · replace hm := if_t c_1 hm
      refine lv_iload_n hx hb d_Model_running_436 rfl (lv_at hl 1 rfl) ?_
      refine lv_bipush (v := 73) hx hb d_Model_running_437 (by decide) ?_
      refine lv_icmp_eq (tgt := 448) hx hb d_Model_running_439 (by decide) (fun c_2 => ?_) (fun c_2 => ?_)
      · replace hm := if_t c_2 hm
        refine lv_ldc2 (v := 3) hx hb hown (htt _ lk_Model_7) d_Model_running_448 ?_
        obtain ⟨e1i, e1j, e1a, e1b, e3⟩ := re4m hm
        obtain ⟨hP, hD⟩ := y_eq e1i e1j e1a e1b hP hD
        exact W.lret hx hb hr (fun t9 ht hW => ⟨⟨_, (), rfl, e3.symm, by rw [ht]; exact hP, hD⟩, hS.F ht⟩) hS.2.2 d_Model_running_451
      · replace hm := if_f c_2 hm
        refine lv_aload_n hx hb d_Model_running_442 rfl (lv_at hl 0 rfl) ?_
        refine lv_bipush (v := 10) hx hb d_Model_running_443 (by decide) ?_
        obtain ⟨i_4, j_5, a_6, b_7, r_8, h_3, hm⟩ := om_some hm
        have hFc := x_free hD hS hA
        refine va_callv (va_runV (As := [.int 10]) (rest := []) ⟨hx, hb, hml, hown, hts⟩ (x_Model_tellOut l dC dI cI cJ cB adK adV adA h v H.size n h_3) (cwV 1 hts (tw_GV tw_cons cw_Model_tellOut lk_Model_786 in_Model_tellOut sel_Model_tellOut ini_Model) rfl rfl rfl ⟨rfl, hd_Model_tellOut⟩ (gR_fit (d + 1) (Nat.le_of_ble_eq_true rfl) (Nat.le_of_ble_eq_true rfl))) (ypV hK hP hD hS hE hFc yo_12 rfl) rfl rfl hl.1 rfl (lv_room (Nat.le_of_ble_eq_true rfl)) d_Model_running_445 ⟨Nat.le_of_ble_eq_true rfl, Nat.le_of_ble_eq_true rfl⟩) hS (fun q _ h => hFc q h) hFc (fun u9 t9 H locs ht hvm e9 hB hz1 hk1 hS => ?_)
        obtain ⟨hP, hD⟩ := y_aft hB ht hFc
        clear hFc hk1 hz1 hvm hB ht
        refine lv_ldc2 (v := 3) hx hb hown (htt _ lk_Model_7) d_Model_running_448 ?_
        obtain ⟨e1i, e1j, e1a, e1b, e3⟩ := re4m hm
        obtain ⟨hP, hD⟩ := y_eq e1i e1j e1a e1b hP hD
        exact W.lret hx hb hr (fun t9 ht hW => ⟨⟨_, (), rfl, e3.symm, by rw [ht]; exact hP, hD⟩, hS.F ht⟩) hS.2.2 d_Model_running_451
    · replace hm := if_f c_1 hm
      refine lv_aload_n hx hb d_Model_running_419 rfl (lv_at hl 0 rfl) ?_
      refine lv_aload_n hx hb d_Model_running_420 rfl (lv_at hl 0 rfl) ?_
      refine va_get (D := (dC, dI)) (ci := 12) (v := .ref ((v 24))) (C := R_Model) (T := F_Model) (N := 127) hx hb htt iw_Model hown hK hP 0 yo_12 rfl 24 (Nat.le_of_ble_eq_true rfl) (htt _ lk_Model_105) (fun _ h9 => h9) yg_24 d_Model_running_421 ?_
      refine lv_iload hx hb d_Model_running_424 (lv_at hl 2 rfl) ?_
      obtain ⟨h_9, hm⟩ := ck_some hm
      refine va_bald hx hb hK hP 20 2 ya_24 rfl h_9 d_Model_running_426 ?_
      obtain ⟨i_11, j_12, a_13, b_14, r_15, h_10, hm⟩ := om_some hm
      have hFc := x_free hD hS hA
      refine va_callv (va_runV (As := [.int (a 24 v8.toNatClampNeg)]) (rest := []) ⟨hx, hb, hml, hown, hts⟩ (x_Model_tellOut l dC dI cI cJ cB adK adV adA h v H.size n h_10) (cwV 1 hts (tw_GV tw_cons cw_Model_tellOut lk_Model_786 in_Model_tellOut sel_Model_tellOut ini_Model) rfl rfl rfl ⟨rfl, hd_Model_tellOut⟩ (gR_fit (d + 1) (Nat.le_of_ble_eq_true rfl) (Nat.le_of_ble_eq_true rfl))) (ypV hK hP hD hS hE hFc yo_12 rfl) rfl rfl hl.1 rfl (lv_room (Nat.le_of_ble_eq_true rfl)) d_Model_running_427 ⟨Nat.le_of_ble_eq_true rfl, Nat.le_of_ble_eq_true rfl⟩) hS (fun q _ h => hFc q h) hFc (fun u9 t9 H locs ht hvm e9 hB hz1 hk1 hS => ?_)
      obtain ⟨hP, hD⟩ := y_aft hB ht hFc
      clear hFc hk1 hz1 hvm hB ht
      obtain ⟨x_16, ex_16⟩ : ∃ y9 : Int32, y9 = v8 + 1 := ⟨_, rfl⟩
      replace hm := ob1_at ex_16 hm
      refine lv_iinc (v := x_16) (lv' := [(8, .int x_16), (0, .ref h), (1, .int v1)]) hx hb d_Model_running_430 hl (k := 2) rfl (by rw [ex_16]; rfl) (by decide) rfl (fun ls hl => ?_)
      refine lv_goto (tgt := 410) hx hb d_Model_running_433 (by decide) ?_
      exact ih _ _ _ _ _ _ hm _ _ _ hP hD hS (lv_sub hl [1, 2, 0] rfl)
def m_Model_running_b404 (n : Nat) (G : GB) (i : Nat → Int32) (j : Nat → Int64) (a : Nat → Nat → Int32) (b : Nat → Nat → Int64) (v1 : Int32) (s0 : Int32) (s1 : Int64) : Option ((Nat → Int32) × (Nat → Int64) × (Nat → Nat → Int32) × (Nat → Nat → Int64) × Int64) := om (m_Model_show n i j a b s1 s0) (fun i_2 j_3 a_4 b_5 r_6 => m_Model_running_b410 n G n i_2 j_3 a_4 b_5 v1 (0 : Int32))
set_option maxHeartbeats 4000000 in
set_option maxRecDepth 100000 in
theorem lb_Model_running_404 (d : Nat) (G : GB) (l : Launch) (dC : Nat → ClassId) (dI : Nat → Nat → Nat) (cI cJ cB : ClassId) (adK adV adA : Nat → Nat) (h : Nat) (v : Nat → Nat) (n : Nat) (HG : GH l dC dI cI cJ cB adK adV adA h v n G d) {p : Program} {e : Env} {s : State} {m : MethodId} {args : Array Value} {below : List Frame} {meth : Method} {c : Code} {A : Nat → Prop} (hx : p.tables.exec = Jvm.exec) (hb : c.code = b_Model_running) (hml : c.maxLocals = 9) (hown : s.vm.findClass R_Model = some m.cls) (hts : ∀ w ∈ w_Model_running, w.before args s = true) (hK : va_K (dC, dI) classes [(cI, .int), (cJ, .long), (cB, .byte)] s) (hE : tw_E adK adV adA A s s.heap) (hA : ∀ q : Nat, s.heap.size ≤ q → A q) (hr : meth.sig.returnType = (some .long)) (hlocks : meth.locks = false) {i2 : Nat → Int32} {j2 : Nat → Int64} {a2 : Nat → Nat → Int32} {b2 : Nat → Nat → Int64} {r2 : Int64} (i : Nat → Int32) (j : Nat → Int64) (a : Nat → Nat → Int32) (b : Nat → Nat → Int64) (v1 : Int32) (s0 : Int32) (s1 : Int64) (hm : m_Model_running_b404 n G i j a b v1 s0 s1 = some (i2, j2, a2, b2, r2)) : ∀ (H : Heap) (locs : List Loc) (ls : Array Slot), va_P (dC, dI) classes (MW cI cJ cB h v i j a b) H → va_D A (MW cI cJ cB h v i j a b) → va_S A s.heap H locs → lv_has ls 9 [(0, .ref h), (1, .int v1)] → W p l e (gR (d + 1)) s m args below meth c H locs 0 0 (MQ below (va_Ql (xR r2) (yB dC dI cI cJ cB h v i2 j2 a2 b2 A) A) args s 0 0 A) (F0 m 404 ls [.int s0, .long s1, .ref h]) := by
  have htt : ∀ w ∈ tw_T, w.before _ s = true := fun w h => hts w (List.mem_cons_of_mem _ h)
  intro H locs ls hP hD hS hl
  rw [m_Model_running_b404] at hm
  obtain ⟨i_2, j_3, a_4, b_5, r_6, h_1, hm⟩ := om_some hm
  have hFc := x_free hD hS hA
  refine va_callv (va_runV (As := [.long s1, .int s0]) (rest := []) ⟨hx, hb, hml, hown, hts⟩ (x_Model_show l dC dI cI cJ cB adK adV adA h v H.size n h_1) (cwV 2 hts (tw_GV tw_cons cw_Model_show lk_Model_782 in_Model_show sel_Model_show ini_Model) rfl rfl rfl ⟨rfl, hd_Model_show⟩ (gR_fit (d + 1) (Nat.le_of_ble_eq_true rfl) (Nat.le_of_ble_eq_true rfl))) (ypV hK hP hD hS hE hFc yo_12 rfl) rfl rfl hl.1 rfl (lv_room (Nat.le_of_ble_eq_true rfl)) d_Model_running_404 ⟨Nat.le_of_ble_eq_true rfl, Nat.le_of_ble_eq_true rfl⟩) hS (fun q _ h => hFc q h) hFc (fun u9 t9 H locs ht hvm e9 hB hz1 hk1 hS => ?_)
  obtain ⟨hP, hD⟩ := y_aft hB ht hFc
  clear hFc hk1 hz1 hvm hB ht
  refine lv_iconst (v := 0) hx hb d_Model_running_407 (by decide) ?_
  refine lv_istore (lv' := [(8, .int 0), (0, .ref h), (1, .int v1)]) hx hb d_Model_running_408 hl (by decide) rfl (fun ls hl => ?_)
  exact lb_Model_running_410 d G l dC dI cI cJ cB adK adV adA h v n HG hx hb hml hown hts hK hE hA hr hlocks n _ _ _ _ _ _ hm _ _ _ hP hD hS (lv_sub hl [1, 2, 0] rfl)
def m_Model_running (n : Nat) (G : GB) (i : Nat → Int32) (j : Nat → Int64) (a : Nat → Nat → Int32) (b : Nat → Nat → Int64) (v1 : Int32) (v2 : Int64) (v4 : Int64) (v6 : Int64) : Option ((Nat → Int32) × (Nat → Int64) × (Nat → Nat → Int32) × (Nat → Nat → Int64) × Int64) := if v1 = 56 then om (m_Model_hasLevel n i j a b) (fun i_3 j_4 a_5 b_6 r_7 => if r_7 = ((0 : Int32)) then some (i_3, j_4, a_5, b_6, 3) else om (G.2.2.1 i_3 j_4 a_5 b_6 v2 (1 : Int32)) (fun i_10 j_11 a_12 b_13 r_14 => some (i_10, j_11, a_12, b_13, r_14))) else if v1 = 57 then ob0 (m_Model_isTrue n i j a b v2) (fun r_17 => if r_17 = ((0 : Int32)) then some (i, j, a, b, 3) else om (m_Model_hasLevel n i j a b) (fun i_20 j_21 a_22 b_23 r_24 => if r_24 = ((0 : Int32)) then some (i_20, j_21, a_22, b_23, 3) else om (G.2.2.1 i_20 j_21 a_22 b_23 v4 (0 : Int32)) (fun i_27 j_28 a_29 b_30 r_31 => some (i_27, j_28, a_29, b_30, r_31)))) else if v1 = 58 then om (m_Model_hasLevel n i j a b) (fun i_34 j_35 a_36 b_37 r_38 => if r_38 = ((0 : Int32)) then some (i_34, j_35, a_36, b_37, 3) else ob0 (m_Model_isTrue n i_34 j_35 a_36 b_37 v2) (fun r_41 => if r_41 = ((0 : Int32)) then om (G.2.2.1 i_34 j_35 a_36 b_37 v6 (1 : Int32)) (fun i_44 j_45 a_46 b_47 r_48 => some (i_44, j_45, a_46, b_47, r_48)) else om (G.2.2.1 i_34 j_35 a_36 b_37 v4 (1 : Int32)) (fun i_50 j_51 a_52 b_53 r_54 => some (i_50, j_51, a_52, b_53, r_54)))) else if v1 = 59 then ob0 (m_Model_what n v2) (fun r_57 => om (G.2.2.2.2.2.2.1 i j a b r_57 v4) (fun i_59 j_60 a_61 b_62 r_63 => some (i_59, j_60, a_61, b_62, r_63))) else if v1 = 60 then if ((i 116)) ≤ ((0 : Int32)) then ob0 (m_Model_number n (0 : Int32)) (fun r_67 => some (i, j, a, b, r_67)) else ck (((i 116) - 1)) 151 (if ((a 120 ((i 116) - 1).toNatClampNeg)) = ((i 99)) then ck (((i 116) - 1)) 151 (ob0 (m_Model_number n (a 119 ((i 116) - 1).toNatClampNeg)) (fun r_74 => some (i, j, a, b, r_74))) else ob0 (m_Model_number n (0 : Int32)) (fun r_71 => some (i, j, a, b, r_71))) else if v1 = 61 then om (G.2.2.2.2.2.2.2.1 i j a b v2 v4) (fun i_77 j_78 a_79 b_80 r_81 => some (i_77, j_78, a_79, b_80, r_81)) else if v1 = 62 then if v1 = ((64 : Int32)) then om (G.2.2.2.2.2.2.2.2.1 i j a b v2 v4 (1 : Int32)) (fun i_91 j_92 a_93 b_94 r_95 => some (i_91, j_92, a_93, b_94, r_95)) else om (G.2.2.2.2.2.2.2.2.1 i j a b v2 v4 (0 : Int32)) (fun i_85 j_86 a_87 b_88 r_89 => some (i_85, j_86, a_87, b_88, r_89)) else if v1 = 63 then if ((i 117)) ≤ ((0 : Int32)) then om (m_Model_fails n i j a b (1 : Int32)) (fun i_99 j_100 a_101 b_102 r_103 => some (i_99, j_100, a_101, b_102, r_103)) else ck (((i 117) - 1)) 151 (if ((a 121 ((i 117) - 1).toNatClampNeg)) = ((i 99)) then ck (((i 117) - 1)) 151 (some (i, j, a, b, b 122 ((i 117) - 1).toNatClampNeg)) else om (m_Model_fails n i j a b (1 : Int32)) (fun i_107 j_108 a_109 b_110 r_111 => some (i_107, j_108, a_109, b_110, r_111))) else if v1 = 64 then if v1 = ((64 : Int32)) then om (G.2.2.2.2.2.2.2.2.1 i j a b v2 v4 (1 : Int32)) (fun i_122 j_123 a_124 b_125 r_126 => some (i_122, j_123, a_124, b_125, r_126)) else om (G.2.2.2.2.2.2.2.2.1 i j a b v2 v4 (0 : Int32)) (fun i_116 j_117 a_118 b_119 r_120 => some (i_116, j_117, a_118, b_119, r_120)) else if v1 = 65 then om (m_Model_hasLevel n i j a b) (fun i_129 j_130 a_131 b_132 r_133 => if r_133 = ((0 : Int32)) then some (i_129, j_130, a_131, b_132, 3) else ob0 (m_Model_what n v2) (fun r_136 => om (G.2.2.2.2.2.2.2.2.2.1 i_129 j_130 a_131 b_132 r_136 v4) (fun i_138 j_139 a_140 b_141 r_142 => some (i_138, j_139, a_140, b_141, r_142)))) else if v1 = 66 then ob1 (upd i 102 4 : Nat → Int32) (fun i_144 => some (i_144, j, a, b, 3)) else if v1 = 67 then if ((i 99)) = ((0 : Int32)) then om (m_Model_fails n i j a b (12 : Int32)) (fun i_150 j_151 a_152 b_153 r_154 => some (i_150, j_151, a_152, b_153, r_154)) else ob1 (vp_updL j 110 v2 : Nat → Int64) (fun j_147 => ob1 (upd i 102 5 : Nat → Int32) (fun i_148 => some (i_148, j_147, a, b, 3))) else if v1 = 68 then om (m_Model_hasLevel n i j a b) (fun i_157 j_158 a_159 b_160 r_161 => if r_161 = ((0 : Int32)) then some (i_157, j_158, a_159, b_160, 3) else om (G.2.2.2.2.2.2.2.2.2.2 i_157 j_158 a_159 b_160 v2 v4) (fun i_164 j_165 a_166 b_167 r_168 => some (i_164, j_165, a_166, b_167, r_168))) else if v1 = 69 then om (m_Model_throwing n i j a b v2) (fun i_171 j_172 a_173 b_174 r_175 => some (i_171, j_172, a_173, b_174, r_175)) else if v1 = 70 then ob1 (i 95 : Int32) (fun x_177 => ob1 (upd i 95 0 : Nat → Int32) (fun i_178 => ob0 (m_Model_number n x_177) (fun r_180 => some (i_178, j, a, b, r_180)))) else if v1 = ((72 : Int32)) then m_Model_running_b404 n G i j a b v1 (0 : Int32) v2 else m_Model_running_b404 n G i j a b v1 (1 : Int32) v2
set_option maxHeartbeats 4000000 in
set_option maxRecDepth 100000 in
theorem x_Model_running (d : Nat) (G : GB) (l : Launch) (dC : Nat → ClassId) (dI : Nat → Nat → Nat) (cI cJ cB : ClassId) (adK adV adA : Nat → Nat) (h : Nat) (v : Nat → Nat) (sz : Nat) (n : Nat) (HG : GH l dC dI cI cJ cB adK adV adA h v n G d) {i : Nat → Int32} {j : Nat → Int64} {a : Nat → Nat → Int32} {b : Nat → Nat → Int64} {v1 : Int32} {v2 : Int64} {v4 : Int64} {v6 : Int64} {i2 : Nat → Int32} {j2 : Nat → Int64} {a2 : Nat → Nat → Int32} {b2 : Nat → Nat → Int64} {r2 : Int64} (hm : m_Model_running n G i j a b v1 v2 v4 v6 = some (i2, j2, a2, b2, r2)) : Met l y_Model_running w_Model_running (gR (d + 1)) (va_Pc [.ref h, .int v1, .long v2, .long v4, .long v6] (yE dC dI cI cJ cB adK adV adA h v i j a b sz)) (va_Ql (xR r2) (yB dC dI cI cJ cB h v i2 j2 a2 b2 (va_A (MW cI cJ cB h v i j a b) sz)) (va_A (MW cI cJ cB h v i j a b) sz)) 0 0 ((va_A (MW cI cJ cB h v i j a b) sz)) := by
  refine Met.ofW (cc := b_Model_running) (maxL := 9) (ret := (some .long)) (by decide) rfl ?_
  intro p e s m args below meth c s₁ B hml hv
  obtain ⟨rfl, hsz, hP, hK, hE, hD0⟩ := hv
  have hx := B.exec
  have hb := B.bytes
  have hr := B.returns
  have hts := atoms_spec (ws := w_Model_running) B.pre
  have htt : ∀ w ∈ tw_T, w.before _ s = true := fun w h => hts w (List.mem_cons_of_mem _ h)
  have hown : s.vm.findClass R_Model = some m.cls := findClass_of_methodNamed B.named
  have hlocks := B.notSynchronized
  subst hsz
  have hD := hD0.self (sz := s.heap.size)
  generalize hAe : (va_A (MW cI cJ cB h v i j a b) s.heap.size) = A at hD hE ⊢
  have hA : ∀ q : Nat, s.heap.size ≤ q → A q := fun q h => by rw [← hAe]; exact Or.inr h
  have hS : va_S A s.heap s.heap [] := va_S.rf
  have hl := lv_entry ([.ref h, .int v1, .long v2, .long v4, .long v6]) (n := 9) (Nat.le_of_ble_eq_true rfl)
  rw [lg_entry_eq]
  generalize (lg_sl ([.ref h, .int v1, .long v2, .long v4, .long v6]) ++ List.replicate (9 - (lg_sl ([.ref h, .int v1, .long v2, .long v4, .long v6])).length) Slot.unset).toArray = ls at hl ⊢
  have hl : lv_has ls 9 [(0, .ref h), (1, .int v1), (2, .long v2), (4, .long v4), (6, .long v6)] := hl
  rw [m_Model_running] at hm
  refine lv_iload_n hx hb d_Model_running_0 rfl (lv_at hl 1 rfl) ?_
  rcases Classical.em (v1 = 56) with c_1 | c_1
  · replace hm := if_t c_1 hm
    refine lv_tableIn (x := v1) (tgt := 76) hx hb d_Model_running_1 (by rw [c_1]; decide) (by rw [c_1]; decide) (by rw [c_1]; rfl) (by decide) ?_
    refine lv_aload_n hx hb d_Model_running_76 rfl (lv_at hl 0 rfl) ?_
    obtain ⟨i_3, j_4, a_5, b_6, r_7, h_2, hm⟩ := om_some hm
    have hFc := x_free hD hS hA
    refine va_calli (va_runV (As := []) (rest := []) ⟨hx, hb, hml, hown, hts⟩ (x_Model_hasLevel l dC dI cI cJ cB adK adV adA h v s.heap.size n h_2) (cwV 0 hts (tw_GV tw_cons cw_Model_hasLevel lk_Model_646 in_Model_hasLevel sel_Model_hasLevel ini_Model) rfl rfl rfl ⟨rfl, hd_Model_hasLevel⟩ (gR_fit (d + 1) (Nat.le_of_ble_eq_true rfl) (Nat.le_of_ble_eq_true rfl))) (ypV hK hP hD hS hE hFc yo_12 rfl) rfl rfl hl.1 rfl (lv_room (Nat.le_of_ble_eq_true rfl)) d_Model_running_77 ⟨Nat.le_of_ble_eq_true rfl, Nat.le_of_ble_eq_true rfl⟩) hS (fun q _ h => hFc q h) hFc (fun r9 u9 t9 H locs ht hvm e9 hB hz1 hk1 hS => ?_)
    have e9 : r_7 = r9 := e9
    subst e9
    obtain ⟨hP, hD⟩ := y_aft hB ht hFc
    clear hFc hk1 hz1 hvm hB ht
    refine lv_if_eq (tgt := 92) hx hb d_Model_running_80 (by decide) (fun c_8 => ?_) (fun c_8 => ?_)
    · replace hm := if_t c_8 hm
      refine lv_ldc2 (v := 3) hx hb hown (htt _ lk_Model_7) d_Model_running_92 ?_
      obtain ⟨e1i, e1j, e1a, e1b, e3⟩ := re4m hm
      obtain ⟨hP, hD⟩ := y_eq e1i e1j e1a e1b hP hD
      exact W.lret hx hb hr (fun t9 ht hW => ⟨⟨_, (), rfl, e3.symm, by rw [ht]; exact hP, hD⟩, hS.F ht⟩) hS.2.2 d_Model_running_95
    · replace hm := if_f c_8 hm
      refine lv_aload_n hx hb d_Model_running_83 rfl (lv_at hl 0 rfl) ?_
      refine lv_lload_n hx hb d_Model_running_84 rfl (lv_at hl 2 rfl) ?_
      refine lv_iconst (v := 1) hx hb d_Model_running_85 (by decide) ?_
      obtain ⟨i_10, j_11, a_12, b_13, r_14, h_9, hm⟩ := om_some hm
      have hFc := x_free hD hS hA
      refine va_calll (va_runV (As := [.long v2, .int 1]) (rest := []) ⟨hx, hb, hml, hown, hts⟩ (HG.2.2.1 H.size _ _ _ _ _ _ _ _ _ _ _ h_9) (cwV 2 hts (tw_GV tw_cons cw_Model_ran lk_Model_649 in_Model_ran sel_Model_ran ini_Model) rfl rfl rfl ⟨rfl, hd_Model_ran⟩ (gR_up (by decide))) (ypV hK hP hD hS hE hFc yo_12 rfl) rfl rfl hl.1 rfl (lv_room (Nat.le_of_ble_eq_true rfl)) d_Model_running_86 ⟨Nat.le_of_ble_eq_true rfl, Nat.le_of_ble_eq_true rfl⟩) hS (fun q _ h => hFc q h) hFc (fun r9 u9 t9 H locs ht hvm e9 hB hz1 hk1 hS => ?_)
      have e9 : r_14 = r9 := e9
      subst e9
      obtain ⟨hP, hD⟩ := y_aft hB ht hFc
      clear hFc hk1 hz1 hvm hB ht
      refine lv_goto (tgt := 95) hx hb d_Model_running_89 (by decide) ?_
      obtain ⟨e1i, e1j, e1a, e1b, e3⟩ := re4m hm
      obtain ⟨hP, hD⟩ := y_eq e1i e1j e1a e1b hP hD
      exact W.lret hx hb hr (fun t9 ht hW => ⟨⟨_, (), rfl, e3.symm, by rw [ht]; exact hP, hD⟩, hS.F ht⟩) hS.2.2 d_Model_running_95
  replace hm := if_f c_1 hm
  rcases Classical.em (v1 = 57) with c_15 | c_15
  · replace hm := if_t c_15 hm
    refine lv_tableIn (x := v1) (tgt := 96) hx hb d_Model_running_1 (by rw [c_15]; decide) (by rw [c_15]; decide) (by rw [c_15]; rfl) (by decide) ?_
    refine lv_aload_n hx hb d_Model_running_96 rfl (lv_at hl 0 rfl) ?_
    refine lv_lload_n hx hb d_Model_running_97 rfl (lv_at hl 2 rfl) ?_
    obtain ⟨r_17, h_16, hm⟩ := ob0_some hm
    have hFc := x_free0 hS hA
    refine va_calli (va_runV (As := [.long v2]) (rest := []) ⟨hx, hb, hml, hown, hts⟩ (x_Model_isTrue l dC dI cI cJ cB adK adV adA h v s.heap.size n h_16) (cwV 1 hts (tw_GV tw_cons cw_Model_isTrue lk_Model_662 in_Model_isTrue sel_Model_isTrue ini_Model) rfl rfl rfl ⟨rfl, hd_Model_isTrue⟩ (gR_fit (d + 1) (Nat.le_of_ble_eq_true rfl) (Nat.le_of_ble_eq_true rfl))) (ypVr hK hP hS hE hFc yo_12 rfl) rfl rfl hl.1 rfl (lv_room (Nat.le_of_ble_eq_true rfl)) d_Model_running_98 ⟨Nat.le_of_ble_eq_true rfl, Nat.le_of_ble_eq_true rfl⟩) hS (fun q _ h => hFc q h) hFc (fun r9 u9 t9 H locs ht hvm e9 hB hz1 hk1 hS => ?_)
    have e9 : r_17 = r9 := e9
    subst e9
    replace hP := x_keep hP hk1
    clear hFc hk1 hz1 hvm hB ht
    refine lv_if_eq (tgt := 121) hx hb d_Model_running_101 (by decide) (fun c_18 => ?_) (fun c_18 => ?_)
    · replace hm := if_t c_18 hm
      refine lv_ldc2 (v := 3) hx hb hown (htt _ lk_Model_7) d_Model_running_121 ?_
      obtain ⟨e1i, e1j, e1a, e1b, e3⟩ := re4m hm
      obtain ⟨hP, hD⟩ := y_eq e1i e1j e1a e1b hP hD
      exact W.lret hx hb hr (fun t9 ht hW => ⟨⟨_, (), rfl, e3.symm, by rw [ht]; exact hP, hD⟩, hS.F ht⟩) hS.2.2 d_Model_running_124
    · replace hm := if_f c_18 hm
      refine lv_aload_n hx hb d_Model_running_104 rfl (lv_at hl 0 rfl) ?_
      obtain ⟨i_20, j_21, a_22, b_23, r_24, h_19, hm⟩ := om_some hm
      have hFc := x_free hD hS hA
      refine va_calli (va_runV (As := []) (rest := []) ⟨hx, hb, hml, hown, hts⟩ (x_Model_hasLevel l dC dI cI cJ cB adK adV adA h v H.size n h_19) (cwV 0 hts (tw_GV tw_cons cw_Model_hasLevel lk_Model_646 in_Model_hasLevel sel_Model_hasLevel ini_Model) rfl rfl rfl ⟨rfl, hd_Model_hasLevel⟩ (gR_fit (d + 1) (Nat.le_of_ble_eq_true rfl) (Nat.le_of_ble_eq_true rfl))) (ypV hK hP hD hS hE hFc yo_12 rfl) rfl rfl hl.1 rfl (lv_room (Nat.le_of_ble_eq_true rfl)) d_Model_running_105 ⟨Nat.le_of_ble_eq_true rfl, Nat.le_of_ble_eq_true rfl⟩) hS (fun q _ h => hFc q h) hFc (fun r9 u9 t9 H locs ht hvm e9 hB hz1 hk1 hS => ?_)
      have e9 : r_24 = r9 := e9
      subst e9
      obtain ⟨hP, hD⟩ := y_aft hB ht hFc
      clear hFc hk1 hz1 hvm hB ht
      refine lv_if_eq (tgt := 121) hx hb d_Model_running_108 (by decide) (fun c_25 => ?_) (fun c_25 => ?_)
      · replace hm := if_t c_25 hm
        refine lv_ldc2 (v := 3) hx hb hown (htt _ lk_Model_7) d_Model_running_121 ?_
        obtain ⟨e1i, e1j, e1a, e1b, e3⟩ := re4m hm
        obtain ⟨hP, hD⟩ := y_eq e1i e1j e1a e1b hP hD
        exact W.lret hx hb hr (fun t9 ht hW => ⟨⟨_, (), rfl, e3.symm, by rw [ht]; exact hP, hD⟩, hS.F ht⟩) hS.2.2 d_Model_running_124
      · replace hm := if_f c_25 hm
        refine lv_aload_n hx hb d_Model_running_111 rfl (lv_at hl 0 rfl) ?_
        refine lv_lload hx hb d_Model_running_112 (lv_at hl 3 rfl) ?_
        refine lv_iconst (v := 0) hx hb d_Model_running_114 (by decide) ?_
        obtain ⟨i_27, j_28, a_29, b_30, r_31, h_26, hm⟩ := om_some hm
        have hFc := x_free hD hS hA
        refine va_calll (va_runV (As := [.long v4, .int 0]) (rest := []) ⟨hx, hb, hml, hown, hts⟩ (HG.2.2.1 H.size _ _ _ _ _ _ _ _ _ _ _ h_26) (cwV 2 hts (tw_GV tw_cons cw_Model_ran lk_Model_649 in_Model_ran sel_Model_ran ini_Model) rfl rfl rfl ⟨rfl, hd_Model_ran⟩ (gR_up (by decide))) (ypV hK hP hD hS hE hFc yo_12 rfl) rfl rfl hl.1 rfl (lv_room (Nat.le_of_ble_eq_true rfl)) d_Model_running_115 ⟨Nat.le_of_ble_eq_true rfl, Nat.le_of_ble_eq_true rfl⟩) hS (fun q _ h => hFc q h) hFc (fun r9 u9 t9 H locs ht hvm e9 hB hz1 hk1 hS => ?_)
        have e9 : r_31 = r9 := e9
        subst e9
        obtain ⟨hP, hD⟩ := y_aft hB ht hFc
        clear hFc hk1 hz1 hvm hB ht
        refine lv_goto (tgt := 124) hx hb d_Model_running_118 (by decide) ?_
        obtain ⟨e1i, e1j, e1a, e1b, e3⟩ := re4m hm
        obtain ⟨hP, hD⟩ := y_eq e1i e1j e1a e1b hP hD
        exact W.lret hx hb hr (fun t9 ht hW => ⟨⟨_, (), rfl, e3.symm, by rw [ht]; exact hP, hD⟩, hS.F ht⟩) hS.2.2 d_Model_running_124
  replace hm := if_f c_15 hm
  rcases Classical.em (v1 = 58) with c_32 | c_32
  · replace hm := if_t c_32 hm
    refine lv_tableIn (x := v1) (tgt := 125) hx hb d_Model_running_1 (by rw [c_32]; decide) (by rw [c_32]; decide) (by rw [c_32]; rfl) (by decide) ?_
    refine lv_aload_n hx hb d_Model_running_125 rfl (lv_at hl 0 rfl) ?_
    obtain ⟨i_34, j_35, a_36, b_37, r_38, h_33, hm⟩ := om_some hm
    have hFc := x_free hD hS hA
    refine va_calli (va_runV (As := []) (rest := []) ⟨hx, hb, hml, hown, hts⟩ (x_Model_hasLevel l dC dI cI cJ cB adK adV adA h v s.heap.size n h_33) (cwV 0 hts (tw_GV tw_cons cw_Model_hasLevel lk_Model_646 in_Model_hasLevel sel_Model_hasLevel ini_Model) rfl rfl rfl ⟨rfl, hd_Model_hasLevel⟩ (gR_fit (d + 1) (Nat.le_of_ble_eq_true rfl) (Nat.le_of_ble_eq_true rfl))) (ypV hK hP hD hS hE hFc yo_12 rfl) rfl rfl hl.1 rfl (lv_room (Nat.le_of_ble_eq_true rfl)) d_Model_running_126 ⟨Nat.le_of_ble_eq_true rfl, Nat.le_of_ble_eq_true rfl⟩) hS (fun q _ h => hFc q h) hFc (fun r9 u9 t9 H locs ht hvm e9 hB hz1 hk1 hS => ?_)
    have e9 : r_38 = r9 := e9
    subst e9
    obtain ⟨hP, hD⟩ := y_aft hB ht hFc
    clear hFc hk1 hz1 hvm hB ht
    refine lv_if_eq (tgt := 155) hx hb d_Model_running_129 (by decide) (fun c_39 => ?_) (fun c_39 => ?_)
    · replace hm := if_t c_39 hm
      refine lv_ldc2 (v := 3) hx hb hown (htt _ lk_Model_7) d_Model_running_155 ?_
      obtain ⟨e1i, e1j, e1a, e1b, e3⟩ := re4m hm
      obtain ⟨hP, hD⟩ := y_eq e1i e1j e1a e1b hP hD
      exact W.lret hx hb hr (fun t9 ht hW => ⟨⟨_, (), rfl, e3.symm, by rw [ht]; exact hP, hD⟩, hS.F ht⟩) hS.2.2 d_Model_running_158
    · replace hm := if_f c_39 hm
      refine lv_aload_n hx hb d_Model_running_132 rfl (lv_at hl 0 rfl) ?_
      refine lv_aload_n hx hb d_Model_running_133 rfl (lv_at hl 0 rfl) ?_
      refine lv_lload_n hx hb d_Model_running_134 rfl (lv_at hl 2 rfl) ?_
      obtain ⟨r_41, h_40, hm⟩ := ob0_some hm
      have hFc := x_free0 hS hA
      refine va_calli (va_runV (As := [.long v2]) (rest := [.ref h]) ⟨hx, hb, hml, hown, hts⟩ (x_Model_isTrue l dC dI cI cJ cB adK adV adA h v H.size n h_40) (cwV 1 hts (tw_GV tw_cons cw_Model_isTrue lk_Model_662 in_Model_isTrue sel_Model_isTrue ini_Model) rfl rfl rfl ⟨rfl, hd_Model_isTrue⟩ (gR_fit (d + 1) (Nat.le_of_ble_eq_true rfl) (Nat.le_of_ble_eq_true rfl))) (ypVr hK hP hS hE hFc yo_12 rfl) rfl rfl hl.1 rfl (lv_room (Nat.le_of_ble_eq_true rfl)) d_Model_running_135 ⟨Nat.le_of_ble_eq_true rfl, Nat.le_of_ble_eq_true rfl⟩) hS (fun q _ h => hFc q h) hFc (fun r9 u9 t9 H locs ht hvm e9 hB hz1 hk1 hS => ?_)
      have e9 : r_41 = r9 := e9
      subst e9
      replace hP := x_keep hP hk1
      clear hFc hk1 hz1 hvm hB ht
      refine lv_if_eq (tgt := 146) hx hb d_Model_running_138 (by decide) (fun c_42 => ?_) (fun c_42 => ?_)
      · replace hm := if_t c_42 hm
        refine lv_lload hx hb d_Model_running_146 (lv_at hl 4 rfl) ?_
        refine lv_iconst (v := 1) hx hb d_Model_running_148 (by decide) ?_
        obtain ⟨i_44, j_45, a_46, b_47, r_48, h_43, hm⟩ := om_some hm
        have hFc := x_free hD hS hA
        refine va_calll (va_runV (As := [.long v6, .int 1]) (rest := []) ⟨hx, hb, hml, hown, hts⟩ (HG.2.2.1 H.size _ _ _ _ _ _ _ _ _ _ _ h_43) (cwV 2 hts (tw_GV tw_cons cw_Model_ran lk_Model_649 in_Model_ran sel_Model_ran ini_Model) rfl rfl rfl ⟨rfl, hd_Model_ran⟩ (gR_up (by decide))) (ypV hK hP hD hS hE hFc yo_12 rfl) rfl rfl hl.1 rfl (lv_room (Nat.le_of_ble_eq_true rfl)) d_Model_running_149 ⟨Nat.le_of_ble_eq_true rfl, Nat.le_of_ble_eq_true rfl⟩) hS (fun q _ h => hFc q h) hFc (fun r9 u9 t9 H locs ht hvm e9 hB hz1 hk1 hS => ?_)
        have e9 : r_48 = r9 := e9
        subst e9
        obtain ⟨hP, hD⟩ := y_aft hB ht hFc
        clear hFc hk1 hz1 hvm hB ht
        refine lv_goto (tgt := 158) hx hb d_Model_running_152 (by decide) ?_
        obtain ⟨e1i, e1j, e1a, e1b, e3⟩ := re4m hm
        obtain ⟨hP, hD⟩ := y_eq e1i e1j e1a e1b hP hD
        exact W.lret hx hb hr (fun t9 ht hW => ⟨⟨_, (), rfl, e3.symm, by rw [ht]; exact hP, hD⟩, hS.F ht⟩) hS.2.2 d_Model_running_158
      · replace hm := if_f c_42 hm
        refine lv_lload hx hb d_Model_running_141 (lv_at hl 3 rfl) ?_
        refine lv_goto (tgt := 148) hx hb d_Model_running_143 (by decide) ?_
        refine lv_iconst (v := 1) hx hb d_Model_running_148 (by decide) ?_
        obtain ⟨i_50, j_51, a_52, b_53, r_54, h_49, hm⟩ := om_some hm
        have hFc := x_free hD hS hA
        refine va_calll (va_runV (As := [.long v4, .int 1]) (rest := []) ⟨hx, hb, hml, hown, hts⟩ (HG.2.2.1 H.size _ _ _ _ _ _ _ _ _ _ _ h_49) (cwV 2 hts (tw_GV tw_cons cw_Model_ran lk_Model_649 in_Model_ran sel_Model_ran ini_Model) rfl rfl rfl ⟨rfl, hd_Model_ran⟩ (gR_up (by decide))) (ypV hK hP hD hS hE hFc yo_12 rfl) rfl rfl hl.1 rfl (lv_room (Nat.le_of_ble_eq_true rfl)) d_Model_running_149 ⟨Nat.le_of_ble_eq_true rfl, Nat.le_of_ble_eq_true rfl⟩) hS (fun q _ h => hFc q h) hFc (fun r9 u9 t9 H locs ht hvm e9 hB hz1 hk1 hS => ?_)
        have e9 : r_54 = r9 := e9
        subst e9
        obtain ⟨hP, hD⟩ := y_aft hB ht hFc
        clear hFc hk1 hz1 hvm hB ht
        refine lv_goto (tgt := 158) hx hb d_Model_running_152 (by decide) ?_
        obtain ⟨e1i, e1j, e1a, e1b, e3⟩ := re4m hm
        obtain ⟨hP, hD⟩ := y_eq e1i e1j e1a e1b hP hD
        exact W.lret hx hb hr (fun t9 ht hW => ⟨⟨_, (), rfl, e3.symm, by rw [ht]; exact hP, hD⟩, hS.F ht⟩) hS.2.2 d_Model_running_158
  replace hm := if_f c_32 hm
  rcases Classical.em (v1 = 59) with c_55 | c_55
  · replace hm := if_t c_55 hm
    refine lv_tableIn (x := v1) (tgt := 159) hx hb d_Model_running_1 (by rw [c_55]; decide) (by rw [c_55]; decide) (by rw [c_55]; rfl) (by decide) ?_
    refine lv_aload_n hx hb d_Model_running_159 rfl (lv_at hl 0 rfl) ?_
    refine lv_lload_n hx hb d_Model_running_160 rfl (lv_at hl 2 rfl) ?_
    obtain ⟨r_57, h_56, hm⟩ := ob0_some hm
    have hFc := x_free0 hS hA
    refine va_calli (va_runS (As := [.long v2]) (rest := [.ref h]) ⟨hx, hb, hml, hown, hts⟩ (x_Model_what l s.heap.size n h_56) (va_cwS 1 hts (tw_GS tw_cons cw_Model_what lk_Model_64 st_Model_what ini_Model) rfl rfl rfl hd_Model_what (gR_fit (d + 1) (Nat.le_of_ble_eq_true rfl) (Nat.le_of_ble_eq_true rfl))) xpS0 rfl rfl hl.1 rfl (lv_room (Nat.le_of_ble_eq_true rfl)) d_Model_running_161 ⟨Nat.le_of_ble_eq_true rfl, Nat.le_of_ble_eq_true rfl⟩) hS (fun q _ h => hFc q h) hFc (fun r9 u9 t9 H locs ht hvm e9 hB hz1 hk1 hS => ?_)
    have e9 : r_57 = r9 := e9
    subst e9
    replace hP := x_keep hP hk1
    clear hFc hk1 hz1 hvm hB ht
    refine lv_lload hx hb d_Model_running_164 (lv_at hl 3 rfl) ?_
    obtain ⟨i_59, j_60, a_61, b_62, r_63, h_58, hm⟩ := om_some hm
    have hFc := x_free hD hS hA
    refine va_calll (va_runV (As := [.int r_57, .long v4]) (rest := []) ⟨hx, hb, hml, hown, hts⟩ (HG.2.2.2.2.2.2.1 H.size _ _ _ _ _ _ _ _ _ _ _ h_58) (cwV 2 hts (tw_GV tw_cons cw_Model_repeated lk_Model_763 in_Model_repeated sel_Model_repeated ini_Model) rfl rfl rfl ⟨rfl, hd_Model_repeated⟩ (gR_up (by decide))) (ypV hK hP hD hS hE hFc yo_12 rfl) rfl rfl hl.1 rfl (lv_room (Nat.le_of_ble_eq_true rfl)) d_Model_running_166 ⟨Nat.le_of_ble_eq_true rfl, Nat.le_of_ble_eq_true rfl⟩) hS (fun q _ h => hFc q h) hFc (fun r9 u9 t9 H locs ht hvm e9 hB hz1 hk1 hS => ?_)
    have e9 : r_63 = r9 := e9
    subst e9
    obtain ⟨hP, hD⟩ := y_aft hB ht hFc
    clear hFc hk1 hz1 hvm hB ht
    obtain ⟨e1i, e1j, e1a, e1b, e3⟩ := re4m hm
    obtain ⟨hP, hD⟩ := y_eq e1i e1j e1a e1b hP hD
    exact W.lret hx hb hr (fun t9 ht hW => ⟨⟨_, (), rfl, e3.symm, by rw [ht]; exact hP, hD⟩, hS.F ht⟩) hS.2.2 d_Model_running_169
  replace hm := if_f c_55 hm
  rcases Classical.em (v1 = 60) with c_64 | c_64
  · replace hm := if_t c_64 hm
    refine lv_tableIn (x := v1) (tgt := 170) hx hb d_Model_running_1 (by rw [c_64]; decide) (by rw [c_64]; decide) (by rw [c_64]; rfl) (by decide) ?_
    refine lv_aload_n hx hb d_Model_running_170 rfl (lv_at hl 0 rfl) ?_
    refine va_get (D := (dC, dI)) (ci := 12) (v := .int (i 116)) (C := R_Model) (T := F_Model) (N := 127) hx hb htt iw_Model hown hK hP 0 yo_12 rfl 116 (Nat.le_of_ble_eq_true rfl) (htt _ lk_Model_565) (fun _ h9 => h9) yg_116 d_Model_running_171 ?_
    refine lv_if_le (tgt := 209) hx hb d_Model_running_174 (by decide) (fun c_65 => ?_) (fun c_65 => ?_)
    · replace hm := if_t c_65 hm
      refine lv_iconst (v := 0) hx hb d_Model_running_209 (by decide) ?_
      obtain ⟨r_67, h_66, hm⟩ := ob0_some hm
      have hFc := x_free0 hS hA
      refine va_calll (va_runS (As := [.int 0]) (rest := []) ⟨hx, hb, hml, hown, hts⟩ (x_Model_number l s.heap.size n h_66) (va_cwS 1 hts (tw_GS tw_cons cw_Model_number lk_Model_451 st_Model_number ini_Model) rfl rfl rfl hd_Model_number (gR_fit (d + 1) (Nat.le_of_ble_eq_true rfl) (Nat.le_of_ble_eq_true rfl))) xpS0 rfl rfl hl.1 rfl (lv_room (Nat.le_of_ble_eq_true rfl)) d_Model_running_210 ⟨Nat.le_of_ble_eq_true rfl, Nat.le_of_ble_eq_true rfl⟩) hS (fun q _ h => hFc q h) hFc (fun r9 u9 t9 H locs ht hvm e9 hB hz1 hk1 hS => ?_)
      have e9 : r_67 = r9 := e9
      subst e9
      replace hP := x_keep hP hk1
      clear hFc hk1 hz1 hvm hB ht
      obtain ⟨e1i, e1j, e1a, e1b, e3⟩ := re4m hm
      obtain ⟨hP, hD⟩ := y_eq e1i e1j e1a e1b hP hD
      exact W.lret hx hb hr (fun t9 ht hW => ⟨⟨_, (), rfl, e3.symm, by rw [ht]; exact hP, hD⟩, hS.F ht⟩) hS.2.2 d_Model_running_213
    · replace hm := if_f c_65 hm
      refine lv_aload_n hx hb d_Model_running_177 rfl (lv_at hl 0 rfl) ?_
      refine va_get (D := (dC, dI)) (ci := 12) (v := .ref ((v 120))) (C := R_Model) (T := F_Model) (N := 127) hx hb htt iw_Model hown hK hP 0 yo_12 rfl 120 (Nat.le_of_ble_eq_true rfl) (htt _ lk_Model_319) (fun _ h9 => h9) yg_120 d_Model_running_178 ?_
      refine lv_aload_n hx hb d_Model_running_181 rfl (lv_at hl 0 rfl) ?_
      refine va_get (D := (dC, dI)) (ci := 12) (v := .int (i 116)) (C := R_Model) (T := F_Model) (N := 127) hx hb htt iw_Model hown hK hP 0 yo_12 rfl 116 (Nat.le_of_ble_eq_true rfl) (htt _ lk_Model_565) (fun _ h9 => h9) yg_116 d_Model_running_182 ?_
      refine lv_iconst (v := 1) hx hb d_Model_running_185 (by decide) ?_
      refine lv_isub hx hb d_Model_running_186 ?_
      obtain ⟨h_68, hm⟩ := ck_some hm
      refine va_iald hx hb hK hP 67 0 ya_120 rfl h_68 d_Model_running_187 ?_
      refine lv_aload_n hx hb d_Model_running_188 rfl (lv_at hl 0 rfl) ?_
      refine va_get (D := (dC, dI)) (ci := 12) (v := .int (i 99)) (C := R_Model) (T := F_Model) (N := 127) hx hb htt iw_Model hown hK hP 0 yo_12 rfl 99 (Nat.le_of_ble_eq_true rfl) (htt _ lk_Model_538) (fun _ h9 => h9) yg_99 d_Model_running_189 ?_
      refine lv_icmp_ne (tgt := 209) hx hb d_Model_running_192 (by decide) (fun c_69 => ?_) (fun c_69 => ?_)
      · replace hm := if_f c_69 hm
        refine lv_iconst (v := 0) hx hb d_Model_running_209 (by decide) ?_
        obtain ⟨r_71, h_70, hm⟩ := ob0_some hm
        have hFc := x_free0 hS hA
        refine va_calll (va_runS (As := [.int 0]) (rest := []) ⟨hx, hb, hml, hown, hts⟩ (x_Model_number l s.heap.size n h_70) (va_cwS 1 hts (tw_GS tw_cons cw_Model_number lk_Model_451 st_Model_number ini_Model) rfl rfl rfl hd_Model_number (gR_fit (d + 1) (Nat.le_of_ble_eq_true rfl) (Nat.le_of_ble_eq_true rfl))) xpS0 rfl rfl hl.1 rfl (lv_room (Nat.le_of_ble_eq_true rfl)) d_Model_running_210 ⟨Nat.le_of_ble_eq_true rfl, Nat.le_of_ble_eq_true rfl⟩) hS (fun q _ h => hFc q h) hFc (fun r9 u9 t9 H locs ht hvm e9 hB hz1 hk1 hS => ?_)
        have e9 : r_71 = r9 := e9
        subst e9
        replace hP := x_keep hP hk1
        clear hFc hk1 hz1 hvm hB ht
        obtain ⟨e1i, e1j, e1a, e1b, e3⟩ := re4m hm
        obtain ⟨hP, hD⟩ := y_eq e1i e1j e1a e1b hP hD
        exact W.lret hx hb hr (fun t9 ht hW => ⟨⟨_, (), rfl, e3.symm, by rw [ht]; exact hP, hD⟩, hS.F ht⟩) hS.2.2 d_Model_running_213
      · replace hm := if_t c_69 hm
        refine lv_aload_n hx hb d_Model_running_195 rfl (lv_at hl 0 rfl) ?_
        refine va_get (D := (dC, dI)) (ci := 12) (v := .ref ((v 119))) (C := R_Model) (T := F_Model) (N := 127) hx hb htt iw_Model hown hK hP 0 yo_12 rfl 119 (Nat.le_of_ble_eq_true rfl) (htt _ lk_Model_316) (fun _ h9 => h9) yg_119 d_Model_running_196 ?_
        refine lv_aload_n hx hb d_Model_running_199 rfl (lv_at hl 0 rfl) ?_
        refine va_get (D := (dC, dI)) (ci := 12) (v := .int (i 116)) (C := R_Model) (T := F_Model) (N := 127) hx hb htt iw_Model hown hK hP 0 yo_12 rfl 116 (Nat.le_of_ble_eq_true rfl) (htt _ lk_Model_565) (fun _ h9 => h9) yg_116 d_Model_running_200 ?_
        refine lv_iconst (v := 1) hx hb d_Model_running_203 (by decide) ?_
        refine lv_isub hx hb d_Model_running_204 ?_
        obtain ⟨h_72, hm⟩ := ck_some hm
        refine va_iald hx hb hK hP 66 0 ya_119 rfl h_72 d_Model_running_205 ?_
        refine lv_goto (tgt := 210) hx hb d_Model_running_206 (by decide) ?_
        obtain ⟨r_74, h_73, hm⟩ := ob0_some hm
        have hFc := x_free0 hS hA
        refine va_calll (va_runS (As := [.int (a 119 ((i 116) - 1).toNatClampNeg)]) (rest := []) ⟨hx, hb, hml, hown, hts⟩ (x_Model_number l s.heap.size n h_73) (va_cwS 1 hts (tw_GS tw_cons cw_Model_number lk_Model_451 st_Model_number ini_Model) rfl rfl rfl hd_Model_number (gR_fit (d + 1) (Nat.le_of_ble_eq_true rfl) (Nat.le_of_ble_eq_true rfl))) xpS0 rfl rfl hl.1 rfl (lv_room (Nat.le_of_ble_eq_true rfl)) d_Model_running_210 ⟨Nat.le_of_ble_eq_true rfl, Nat.le_of_ble_eq_true rfl⟩) hS (fun q _ h => hFc q h) hFc (fun r9 u9 t9 H locs ht hvm e9 hB hz1 hk1 hS => ?_)
        have e9 : r_74 = r9 := e9
        subst e9
        replace hP := x_keep hP hk1
        clear hFc hk1 hz1 hvm hB ht
        obtain ⟨e1i, e1j, e1a, e1b, e3⟩ := re4m hm
        obtain ⟨hP, hD⟩ := y_eq e1i e1j e1a e1b hP hD
        exact W.lret hx hb hr (fun t9 ht hW => ⟨⟨_, (), rfl, e3.symm, by rw [ht]; exact hP, hD⟩, hS.F ht⟩) hS.2.2 d_Model_running_213
  replace hm := if_f c_64 hm
  rcases Classical.em (v1 = 61) with c_75 | c_75
  · replace hm := if_t c_75 hm
    refine lv_tableIn (x := v1) (tgt := 214) hx hb d_Model_running_1 (by rw [c_75]; decide) (by rw [c_75]; decide) (by rw [c_75]; rfl) (by decide) ?_
    refine lv_aload_n hx hb d_Model_running_214 rfl (lv_at hl 0 rfl) ?_
    refine lv_lload_n hx hb d_Model_running_215 rfl (lv_at hl 2 rfl) ?_
    refine lv_lload hx hb d_Model_running_216 (lv_at hl 3 rfl) ?_
    obtain ⟨i_77, j_78, a_79, b_80, r_81, h_76, hm⟩ := om_some hm
    have hFc := x_free hD hS hA
    refine va_calll (va_runV (As := [.long v2, .long v4]) (rest := []) ⟨hx, hb, hml, hown, hts⟩ (HG.2.2.2.2.2.2.2.1 s.heap.size _ _ _ _ _ _ _ _ _ _ _ h_76) (cwV 2 hts (tw_GV tw_cons cw_Model_whiled lk_Model_766 in_Model_whiled sel_Model_whiled ini_Model) rfl rfl rfl ⟨rfl, hd_Model_whiled⟩ (gR_up (by decide))) (ypV hK hP hD hS hE hFc yo_12 rfl) rfl rfl hl.1 rfl (lv_room (Nat.le_of_ble_eq_true rfl)) d_Model_running_218 ⟨Nat.le_of_ble_eq_true rfl, Nat.le_of_ble_eq_true rfl⟩) hS (fun q _ h => hFc q h) hFc (fun r9 u9 t9 H locs ht hvm e9 hB hz1 hk1 hS => ?_)
    have e9 : r_81 = r9 := e9
    subst e9
    obtain ⟨hP, hD⟩ := y_aft hB ht hFc
    clear hFc hk1 hz1 hvm hB ht
    obtain ⟨e1i, e1j, e1a, e1b, e3⟩ := re4m hm
    obtain ⟨hP, hD⟩ := y_eq e1i e1j e1a e1b hP hD
    exact W.lret hx hb hr (fun t9 ht hW => ⟨⟨_, (), rfl, e3.symm, by rw [ht]; exact hP, hD⟩, hS.F ht⟩) hS.2.2 d_Model_running_221
  replace hm := if_f c_75 hm
  rcases Classical.em (v1 = 62) with c_82 | c_82
  · replace hm := if_t c_82 hm
    refine lv_tableIn (x := v1) (tgt := 222) hx hb d_Model_running_1 (by rw [c_82]; decide) (by rw [c_82]; decide) (by rw [c_82]; rfl) (by decide) ?_
    refine lv_aload_n hx hb d_Model_running_222 rfl (lv_at hl 0 rfl) ?_
    refine lv_lload_n hx hb d_Model_running_223 rfl (lv_at hl 2 rfl) ?_
    refine lv_lload hx hb d_Model_running_224 (lv_at hl 3 rfl) ?_
    refine lv_iload_n hx hb d_Model_running_226 rfl (lv_at hl 1 rfl) ?_
    refine lv_bipush (v := 64) hx hb d_Model_running_227 (by decide) ?_
    refine lv_icmp_ne (tgt := 236) hx hb d_Model_running_229 (by decide) (fun c_83 => ?_) (fun c_83 => ?_)
    · replace hm := if_f c_83 hm
      refine lv_iconst (v := 0) hx hb d_Model_running_236 (by decide) ?_
      obtain ⟨i_85, j_86, a_87, b_88, r_89, h_84, hm⟩ := om_some hm
      have hFc := x_free hD hS hA
      refine va_calll (va_runV (As := [.long v2, .long v4, .int 0]) (rest := []) ⟨hx, hb, hml, hown, hts⟩ (HG.2.2.2.2.2.2.2.2.1 s.heap.size _ _ _ _ _ _ _ _ _ _ _ _ h_84) (cwV 3 hts (tw_GV tw_cons cw_Model_forEach lk_Model_769 in_Model_forEach sel_Model_forEach ini_Model) rfl rfl rfl ⟨rfl, hd_Model_forEach⟩ (gR_up (by decide))) (ypV hK hP hD hS hE hFc yo_12 rfl) rfl rfl hl.1 rfl (lv_room (Nat.le_of_ble_eq_true rfl)) d_Model_running_237 ⟨Nat.le_of_ble_eq_true rfl, Nat.le_of_ble_eq_true rfl⟩) hS (fun q _ h => hFc q h) hFc (fun r9 u9 t9 H locs ht hvm e9 hB hz1 hk1 hS => ?_)
      have e9 : r_89 = r9 := e9
      subst e9
      obtain ⟨hP, hD⟩ := y_aft hB ht hFc
      clear hFc hk1 hz1 hvm hB ht
      obtain ⟨e1i, e1j, e1a, e1b, e3⟩ := re4m hm
      obtain ⟨hP, hD⟩ := y_eq e1i e1j e1a e1b hP hD
      exact W.lret hx hb hr (fun t9 ht hW => ⟨⟨_, (), rfl, e3.symm, by rw [ht]; exact hP, hD⟩, hS.F ht⟩) hS.2.2 d_Model_running_240
    · replace hm := if_t c_83 hm
      refine lv_iconst (v := 1) hx hb d_Model_running_232 (by decide) ?_
      refine lv_goto (tgt := 237) hx hb d_Model_running_233 (by decide) ?_
      obtain ⟨i_91, j_92, a_93, b_94, r_95, h_90, hm⟩ := om_some hm
      have hFc := x_free hD hS hA
      refine va_calll (va_runV (As := [.long v2, .long v4, .int 1]) (rest := []) ⟨hx, hb, hml, hown, hts⟩ (HG.2.2.2.2.2.2.2.2.1 s.heap.size _ _ _ _ _ _ _ _ _ _ _ _ h_90) (cwV 3 hts (tw_GV tw_cons cw_Model_forEach lk_Model_769 in_Model_forEach sel_Model_forEach ini_Model) rfl rfl rfl ⟨rfl, hd_Model_forEach⟩ (gR_up (by decide))) (ypV hK hP hD hS hE hFc yo_12 rfl) rfl rfl hl.1 rfl (lv_room (Nat.le_of_ble_eq_true rfl)) d_Model_running_237 ⟨Nat.le_of_ble_eq_true rfl, Nat.le_of_ble_eq_true rfl⟩) hS (fun q _ h => hFc q h) hFc (fun r9 u9 t9 H locs ht hvm e9 hB hz1 hk1 hS => ?_)
      have e9 : r_95 = r9 := e9
      subst e9
      obtain ⟨hP, hD⟩ := y_aft hB ht hFc
      clear hFc hk1 hz1 hvm hB ht
      obtain ⟨e1i, e1j, e1a, e1b, e3⟩ := re4m hm
      obtain ⟨hP, hD⟩ := y_eq e1i e1j e1a e1b hP hD
      exact W.lret hx hb hr (fun t9 ht hW => ⟨⟨_, (), rfl, e3.symm, by rw [ht]; exact hP, hD⟩, hS.F ht⟩) hS.2.2 d_Model_running_240
  replace hm := if_f c_82 hm
  rcases Classical.em (v1 = 63) with c_96 | c_96
  · replace hm := if_t c_96 hm
    refine lv_tableIn (x := v1) (tgt := 241) hx hb d_Model_running_1 (by rw [c_96]; decide) (by rw [c_96]; decide) (by rw [c_96]; rfl) (by decide) ?_
    refine lv_aload_n hx hb d_Model_running_241 rfl (lv_at hl 0 rfl) ?_
    refine va_get (D := (dC, dI)) (ci := 12) (v := .int (i 117)) (C := R_Model) (T := F_Model) (N := 127) hx hb htt iw_Model hown hK hP 0 yo_12 rfl 117 (Nat.le_of_ble_eq_true rfl) (htt _ lk_Model_568) (fun _ h9 => h9) yg_117 d_Model_running_242 ?_
    refine lv_if_le (tgt := 280) hx hb d_Model_running_245 (by decide) (fun c_97 => ?_) (fun c_97 => ?_)
    · replace hm := if_t c_97 hm
      refine lv_aload_n hx hb d_Model_running_280 rfl (lv_at hl 0 rfl) ?_
      refine lv_iconst (v := 1) hx hb d_Model_running_281 (by decide) ?_
      obtain ⟨i_99, j_100, a_101, b_102, r_103, h_98, hm⟩ := om_some hm
      have hFc := x_free hD hS hA
      refine va_calll (va_runV (As := [.int 1]) (rest := []) ⟨hx, hb, hml, hown, hts⟩ (x_Model_fails l dC dI cI cJ cB adK adV adA h v s.heap.size n h_98) (cwV 1 hts (tw_GV tw_cons cw_Model_fails lk_Model_596 in_Model_fails sel_Model_fails ini_Model) rfl rfl rfl ⟨rfl, hd_Model_fails⟩ (gR_fit (d + 1) (Nat.le_of_ble_eq_true rfl) (Nat.le_of_ble_eq_true rfl))) (ypV hK hP hD hS hE hFc yo_12 rfl) rfl rfl hl.1 rfl (lv_room (Nat.le_of_ble_eq_true rfl)) d_Model_running_282 ⟨Nat.le_of_ble_eq_true rfl, Nat.le_of_ble_eq_true rfl⟩) hS (fun q _ h => hFc q h) hFc (fun r9 u9 t9 H locs ht hvm e9 hB hz1 hk1 hS => ?_)
      have e9 : r_103 = r9 := e9
      subst e9
      obtain ⟨hP, hD⟩ := y_aft hB ht hFc
      clear hFc hk1 hz1 hvm hB ht
      obtain ⟨e1i, e1j, e1a, e1b, e3⟩ := re4m hm
      obtain ⟨hP, hD⟩ := y_eq e1i e1j e1a e1b hP hD
      exact W.lret hx hb hr (fun t9 ht hW => ⟨⟨_, (), rfl, e3.symm, by rw [ht]; exact hP, hD⟩, hS.F ht⟩) hS.2.2 d_Model_running_285
    · replace hm := if_f c_97 hm
      refine lv_aload_n hx hb d_Model_running_248 rfl (lv_at hl 0 rfl) ?_
      refine va_get (D := (dC, dI)) (ci := 12) (v := .ref ((v 121))) (C := R_Model) (T := F_Model) (N := 127) hx hb htt iw_Model hown hK hP 0 yo_12 rfl 121 (Nat.le_of_ble_eq_true rfl) (htt _ lk_Model_322) (fun _ h9 => h9) yg_121 d_Model_running_249 ?_
      refine lv_aload_n hx hb d_Model_running_252 rfl (lv_at hl 0 rfl) ?_
      refine va_get (D := (dC, dI)) (ci := 12) (v := .int (i 117)) (C := R_Model) (T := F_Model) (N := 127) hx hb htt iw_Model hown hK hP 0 yo_12 rfl 117 (Nat.le_of_ble_eq_true rfl) (htt _ lk_Model_568) (fun _ h9 => h9) yg_117 d_Model_running_253 ?_
      refine lv_iconst (v := 1) hx hb d_Model_running_256 (by decide) ?_
      refine lv_isub hx hb d_Model_running_257 ?_
      obtain ⟨h_104, hm⟩ := ck_some hm
      refine va_iald hx hb hK hP 68 0 ya_121 rfl h_104 d_Model_running_258 ?_
      refine lv_aload_n hx hb d_Model_running_259 rfl (lv_at hl 0 rfl) ?_
      refine va_get (D := (dC, dI)) (ci := 12) (v := .int (i 99)) (C := R_Model) (T := F_Model) (N := 127) hx hb htt iw_Model hown hK hP 0 yo_12 rfl 99 (Nat.le_of_ble_eq_true rfl) (htt _ lk_Model_538) (fun _ h9 => h9) yg_99 d_Model_running_260 ?_
      refine lv_icmp_ne (tgt := 280) hx hb d_Model_running_263 (by decide) (fun c_105 => ?_) (fun c_105 => ?_)
      · replace hm := if_f c_105 hm
        refine lv_aload_n hx hb d_Model_running_280 rfl (lv_at hl 0 rfl) ?_
        refine lv_iconst (v := 1) hx hb d_Model_running_281 (by decide) ?_
        obtain ⟨i_107, j_108, a_109, b_110, r_111, h_106, hm⟩ := om_some hm
        have hFc := x_free hD hS hA
        refine va_calll (va_runV (As := [.int 1]) (rest := []) ⟨hx, hb, hml, hown, hts⟩ (x_Model_fails l dC dI cI cJ cB adK adV adA h v s.heap.size n h_106) (cwV 1 hts (tw_GV tw_cons cw_Model_fails lk_Model_596 in_Model_fails sel_Model_fails ini_Model) rfl rfl rfl ⟨rfl, hd_Model_fails⟩ (gR_fit (d + 1) (Nat.le_of_ble_eq_true rfl) (Nat.le_of_ble_eq_true rfl))) (ypV hK hP hD hS hE hFc yo_12 rfl) rfl rfl hl.1 rfl (lv_room (Nat.le_of_ble_eq_true rfl)) d_Model_running_282 ⟨Nat.le_of_ble_eq_true rfl, Nat.le_of_ble_eq_true rfl⟩) hS (fun q _ h => hFc q h) hFc (fun r9 u9 t9 H locs ht hvm e9 hB hz1 hk1 hS => ?_)
        have e9 : r_111 = r9 := e9
        subst e9
        obtain ⟨hP, hD⟩ := y_aft hB ht hFc
        clear hFc hk1 hz1 hvm hB ht
        obtain ⟨e1i, e1j, e1a, e1b, e3⟩ := re4m hm
        obtain ⟨hP, hD⟩ := y_eq e1i e1j e1a e1b hP hD
        exact W.lret hx hb hr (fun t9 ht hW => ⟨⟨_, (), rfl, e3.symm, by rw [ht]; exact hP, hD⟩, hS.F ht⟩) hS.2.2 d_Model_running_285
      · replace hm := if_t c_105 hm
        refine lv_aload_n hx hb d_Model_running_266 rfl (lv_at hl 0 rfl) ?_
        refine va_get (D := (dC, dI)) (ci := 12) (v := .ref ((v 122))) (C := R_Model) (T := F_Model) (N := 127) hx hb htt iw_Model hown hK hP 0 yo_12 rfl 122 (Nat.le_of_ble_eq_true rfl) (htt _ lk_Model_325) (fun _ h9 => h9) yg_122 d_Model_running_267 ?_
        refine lv_aload_n hx hb d_Model_running_270 rfl (lv_at hl 0 rfl) ?_
        refine va_get (D := (dC, dI)) (ci := 12) (v := .int (i 117)) (C := R_Model) (T := F_Model) (N := 127) hx hb htt iw_Model hown hK hP 0 yo_12 rfl 117 (Nat.le_of_ble_eq_true rfl) (htt _ lk_Model_568) (fun _ h9 => h9) yg_117 d_Model_running_271 ?_
        refine lv_iconst (v := 1) hx hb d_Model_running_274 (by decide) ?_
        refine lv_isub hx hb d_Model_running_275 ?_
        obtain ⟨h_112, hm⟩ := ck_some hm
        refine va_lald hx hb hK hP 69 1 ya_122 rfl h_112 d_Model_running_276 ?_
        refine lv_goto (tgt := 285) hx hb d_Model_running_277 (by decide) ?_
        obtain ⟨e1i, e1j, e1a, e1b, e3⟩ := re4m hm
        obtain ⟨hP, hD⟩ := y_eq e1i e1j e1a e1b hP hD
        exact W.lret hx hb hr (fun t9 ht hW => ⟨⟨_, (), rfl, e3.symm, by rw [ht]; exact hP, hD⟩, hS.F ht⟩) hS.2.2 d_Model_running_285
  replace hm := if_f c_96 hm
  rcases Classical.em (v1 = 64) with c_113 | c_113
  · replace hm := if_t c_113 hm
    refine lv_tableIn (x := v1) (tgt := 222) hx hb d_Model_running_1 (by rw [c_113]; decide) (by rw [c_113]; decide) (by rw [c_113]; rfl) (by decide) ?_
    refine lv_aload_n hx hb d_Model_running_222 rfl (lv_at hl 0 rfl) ?_
    refine lv_lload_n hx hb d_Model_running_223 rfl (lv_at hl 2 rfl) ?_
    refine lv_lload hx hb d_Model_running_224 (lv_at hl 3 rfl) ?_
    refine lv_iload_n hx hb d_Model_running_226 rfl (lv_at hl 1 rfl) ?_
    refine lv_bipush (v := 64) hx hb d_Model_running_227 (by decide) ?_
    refine lv_icmp_ne (tgt := 236) hx hb d_Model_running_229 (by decide) (fun c_114 => ?_) (fun c_114 => ?_)
    · replace hm := if_f c_114 hm
      refine lv_iconst (v := 0) hx hb d_Model_running_236 (by decide) ?_
      obtain ⟨i_116, j_117, a_118, b_119, r_120, h_115, hm⟩ := om_some hm
      have hFc := x_free hD hS hA
      refine va_calll (va_runV (As := [.long v2, .long v4, .int 0]) (rest := []) ⟨hx, hb, hml, hown, hts⟩ (HG.2.2.2.2.2.2.2.2.1 s.heap.size _ _ _ _ _ _ _ _ _ _ _ _ h_115) (cwV 3 hts (tw_GV tw_cons cw_Model_forEach lk_Model_769 in_Model_forEach sel_Model_forEach ini_Model) rfl rfl rfl ⟨rfl, hd_Model_forEach⟩ (gR_up (by decide))) (ypV hK hP hD hS hE hFc yo_12 rfl) rfl rfl hl.1 rfl (lv_room (Nat.le_of_ble_eq_true rfl)) d_Model_running_237 ⟨Nat.le_of_ble_eq_true rfl, Nat.le_of_ble_eq_true rfl⟩) hS (fun q _ h => hFc q h) hFc (fun r9 u9 t9 H locs ht hvm e9 hB hz1 hk1 hS => ?_)
      have e9 : r_120 = r9 := e9
      subst e9
      obtain ⟨hP, hD⟩ := y_aft hB ht hFc
      clear hFc hk1 hz1 hvm hB ht
      obtain ⟨e1i, e1j, e1a, e1b, e3⟩ := re4m hm
      obtain ⟨hP, hD⟩ := y_eq e1i e1j e1a e1b hP hD
      exact W.lret hx hb hr (fun t9 ht hW => ⟨⟨_, (), rfl, e3.symm, by rw [ht]; exact hP, hD⟩, hS.F ht⟩) hS.2.2 d_Model_running_240
    · replace hm := if_t c_114 hm
      refine lv_iconst (v := 1) hx hb d_Model_running_232 (by decide) ?_
      refine lv_goto (tgt := 237) hx hb d_Model_running_233 (by decide) ?_
      obtain ⟨i_122, j_123, a_124, b_125, r_126, h_121, hm⟩ := om_some hm
      have hFc := x_free hD hS hA
      refine va_calll (va_runV (As := [.long v2, .long v4, .int 1]) (rest := []) ⟨hx, hb, hml, hown, hts⟩ (HG.2.2.2.2.2.2.2.2.1 s.heap.size _ _ _ _ _ _ _ _ _ _ _ _ h_121) (cwV 3 hts (tw_GV tw_cons cw_Model_forEach lk_Model_769 in_Model_forEach sel_Model_forEach ini_Model) rfl rfl rfl ⟨rfl, hd_Model_forEach⟩ (gR_up (by decide))) (ypV hK hP hD hS hE hFc yo_12 rfl) rfl rfl hl.1 rfl (lv_room (Nat.le_of_ble_eq_true rfl)) d_Model_running_237 ⟨Nat.le_of_ble_eq_true rfl, Nat.le_of_ble_eq_true rfl⟩) hS (fun q _ h => hFc q h) hFc (fun r9 u9 t9 H locs ht hvm e9 hB hz1 hk1 hS => ?_)
      have e9 : r_126 = r9 := e9
      subst e9
      obtain ⟨hP, hD⟩ := y_aft hB ht hFc
      clear hFc hk1 hz1 hvm hB ht
      obtain ⟨e1i, e1j, e1a, e1b, e3⟩ := re4m hm
      obtain ⟨hP, hD⟩ := y_eq e1i e1j e1a e1b hP hD
      exact W.lret hx hb hr (fun t9 ht hW => ⟨⟨_, (), rfl, e3.symm, by rw [ht]; exact hP, hD⟩, hS.F ht⟩) hS.2.2 d_Model_running_240
  replace hm := if_f c_113 hm
  rcases Classical.em (v1 = 65) with c_127 | c_127
  · replace hm := if_t c_127 hm
    refine lv_tableIn (x := v1) (tgt := 286) hx hb d_Model_running_1 (by rw [c_127]; decide) (by rw [c_127]; decide) (by rw [c_127]; rfl) (by decide) ?_
    refine lv_aload_n hx hb d_Model_running_286 rfl (lv_at hl 0 rfl) ?_
    obtain ⟨i_129, j_130, a_131, b_132, r_133, h_128, hm⟩ := om_some hm
    have hFc := x_free hD hS hA
    refine va_calli (va_runV (As := []) (rest := []) ⟨hx, hb, hml, hown, hts⟩ (x_Model_hasLevel l dC dI cI cJ cB adK adV adA h v s.heap.size n h_128) (cwV 0 hts (tw_GV tw_cons cw_Model_hasLevel lk_Model_646 in_Model_hasLevel sel_Model_hasLevel ini_Model) rfl rfl rfl ⟨rfl, hd_Model_hasLevel⟩ (gR_fit (d + 1) (Nat.le_of_ble_eq_true rfl) (Nat.le_of_ble_eq_true rfl))) (ypV hK hP hD hS hE hFc yo_12 rfl) rfl rfl hl.1 rfl (lv_room (Nat.le_of_ble_eq_true rfl)) d_Model_running_287 ⟨Nat.le_of_ble_eq_true rfl, Nat.le_of_ble_eq_true rfl⟩) hS (fun q _ h => hFc q h) hFc (fun r9 u9 t9 H locs ht hvm e9 hB hz1 hk1 hS => ?_)
    have e9 : r_133 = r9 := e9
    subst e9
    obtain ⟨hP, hD⟩ := y_aft hB ht hFc
    clear hFc hk1 hz1 hvm hB ht
    refine lv_if_eq (tgt := 306) hx hb d_Model_running_290 (by decide) (fun c_134 => ?_) (fun c_134 => ?_)
    · replace hm := if_t c_134 hm
      refine lv_ldc2 (v := 3) hx hb hown (htt _ lk_Model_7) d_Model_running_306 ?_
      obtain ⟨e1i, e1j, e1a, e1b, e3⟩ := re4m hm
      obtain ⟨hP, hD⟩ := y_eq e1i e1j e1a e1b hP hD
      exact W.lret hx hb hr (fun t9 ht hW => ⟨⟨_, (), rfl, e3.symm, by rw [ht]; exact hP, hD⟩, hS.F ht⟩) hS.2.2 d_Model_running_309
    · replace hm := if_f c_134 hm
      refine lv_aload_n hx hb d_Model_running_293 rfl (lv_at hl 0 rfl) ?_
      refine lv_lload_n hx hb d_Model_running_294 rfl (lv_at hl 2 rfl) ?_
      obtain ⟨r_136, h_135, hm⟩ := ob0_some hm
      have hFc := x_free0 hS hA
      refine va_calli (va_runS (As := [.long v2]) (rest := [.ref h]) ⟨hx, hb, hml, hown, hts⟩ (x_Model_what l H.size n h_135) (va_cwS 1 hts (tw_GS tw_cons cw_Model_what lk_Model_64 st_Model_what ini_Model) rfl rfl rfl hd_Model_what (gR_fit (d + 1) (Nat.le_of_ble_eq_true rfl) (Nat.le_of_ble_eq_true rfl))) xpS0 rfl rfl hl.1 rfl (lv_room (Nat.le_of_ble_eq_true rfl)) d_Model_running_295 ⟨Nat.le_of_ble_eq_true rfl, Nat.le_of_ble_eq_true rfl⟩) hS (fun q _ h => hFc q h) hFc (fun r9 u9 t9 H locs ht hvm e9 hB hz1 hk1 hS => ?_)
      have e9 : r_136 = r9 := e9
      subst e9
      replace hP := x_keep hP hk1
      clear hFc hk1 hz1 hvm hB ht
      refine lv_lload hx hb d_Model_running_298 (lv_at hl 3 rfl) ?_
      obtain ⟨i_138, j_139, a_140, b_141, r_142, h_137, hm⟩ := om_some hm
      have hFc := x_free hD hS hA
      refine va_calll (va_runV (As := [.int r_136, .long v4]) (rest := []) ⟨hx, hb, hml, hown, hts⟩ (HG.2.2.2.2.2.2.2.2.2.1 H.size _ _ _ _ _ _ _ _ _ _ _ h_137) (cwV 2 hts (tw_GV tw_cons cw_Model_asked lk_Model_773 in_Model_asked sel_Model_asked ini_Model) rfl rfl rfl ⟨rfl, hd_Model_asked⟩ (gR_up (by decide))) (ypV hK hP hD hS hE hFc yo_12 rfl) rfl rfl hl.1 rfl (lv_room (Nat.le_of_ble_eq_true rfl)) d_Model_running_300 ⟨Nat.le_of_ble_eq_true rfl, Nat.le_of_ble_eq_true rfl⟩) hS (fun q _ h => hFc q h) hFc (fun r9 u9 t9 H locs ht hvm e9 hB hz1 hk1 hS => ?_)
      have e9 : r_142 = r9 := e9
      subst e9
      obtain ⟨hP, hD⟩ := y_aft hB ht hFc
      clear hFc hk1 hz1 hvm hB ht
      refine lv_goto (tgt := 309) hx hb d_Model_running_303 (by decide) ?_
      obtain ⟨e1i, e1j, e1a, e1b, e3⟩ := re4m hm
      obtain ⟨hP, hD⟩ := y_eq e1i e1j e1a e1b hP hD
      exact W.lret hx hb hr (fun t9 ht hW => ⟨⟨_, (), rfl, e3.symm, by rw [ht]; exact hP, hD⟩, hS.F ht⟩) hS.2.2 d_Model_running_309
  replace hm := if_f c_127 hm
  rcases Classical.em (v1 = 66) with c_143 | c_143
  · replace hm := if_t c_143 hm
    refine lv_tableIn (x := v1) (tgt := 310) hx hb d_Model_running_1 (by rw [c_143]; decide) (by rw [c_143]; decide) (by rw [c_143]; rfl) (by decide) ?_
    refine lv_aload_n hx hb d_Model_running_310 rfl (lv_at hl 0 rfl) ?_
    refine lv_iconst (v := 4) hx hb d_Model_running_311 (by decide) ?_
    refine va_put (D := (dC, dI)) (ci := 12) (v := .int 4) (ty := .int) (C := R_Model) (T := F_Model) (N := 127) hx hb htt iw_Model t_Model t_Model_ok n_Model hown hK hP hD hS 0 yo_12 rfl 102 (Nat.le_of_ble_eq_true rfl) (htt _ lk_Model_559) (fun _ h9 => h9) rfl (by decide +kernel) rfl rfl yl_102 d_Model_running_312 (fun H locs hP hD hS => ?_)
    obtain ⟨i_144, ei_144⟩ : ∃ y9 : Nat → Int32, y9 = upd i 102 4 := ⟨_, rfl⟩
    replace hm := ob1_at ei_144 hm
    obtain ⟨hP, hD⟩ := yw_102 ei_144 hP hD
    refine lv_ldc2 (v := 3) hx hb hown (htt _ lk_Model_7) d_Model_running_315 ?_
    obtain ⟨e1i, e1j, e1a, e1b, e3⟩ := re4m hm
    obtain ⟨hP, hD⟩ := y_eq e1i e1j e1a e1b hP hD
    exact W.lret hx hb hr (fun t9 ht hW => ⟨⟨_, (), rfl, e3.symm, by rw [ht]; exact hP, hD⟩, hS.F ht⟩) hS.2.2 d_Model_running_318
  replace hm := if_f c_143 hm
  rcases Classical.em (v1 = 67) with c_145 | c_145
  · replace hm := if_t c_145 hm
    refine lv_tableIn (x := v1) (tgt := 319) hx hb d_Model_running_1 (by rw [c_145]; decide) (by rw [c_145]; decide) (by rw [c_145]; rfl) (by decide) ?_
    refine lv_aload_n hx hb d_Model_running_319 rfl (lv_at hl 0 rfl) ?_
    refine va_get (D := (dC, dI)) (ci := 12) (v := .int (i 99)) (C := R_Model) (T := F_Model) (N := 127) hx hb htt iw_Model hown hK hP 0 yo_12 rfl 99 (Nat.le_of_ble_eq_true rfl) (htt _ lk_Model_538) (fun _ h9 => h9) yg_99 d_Model_running_320 ?_
    refine lv_if_ne (tgt := 333) hx hb d_Model_running_323 (by decide) (fun c_146 => ?_) (fun c_146 => ?_)
    · replace hm := if_f c_146 hm
      refine lv_aload_n hx hb d_Model_running_333 rfl (lv_at hl 0 rfl) ?_
      refine lv_lload_n hx hb d_Model_running_334 rfl (lv_at hl 2 rfl) ?_
      refine va_put (D := (dC, dI)) (ci := 12) (v := .long v2) (ty := .long) (C := R_Model) (T := F_Model) (N := 127) hx hb htt iw_Model t_Model t_Model_ok n_Model hown hK hP hD hS 0 yo_12 rfl 110 (Nat.le_of_ble_eq_true rfl) (htt _ lk_Model_652) (fun _ h9 => h9) rfl (by decide +kernel) rfl rfl yl_110 d_Model_running_335 (fun H locs hP hD hS => ?_)
      obtain ⟨j_147, ej_147⟩ : ∃ y9 : Nat → Int64, y9 = vp_updL j 110 v2 := ⟨_, rfl⟩
      replace hm := ob1_at ej_147 hm
      obtain ⟨hP, hD⟩ := yw_110 ej_147 hP hD
      refine lv_aload_n hx hb d_Model_running_338 rfl (lv_at hl 0 rfl) ?_
      refine lv_iconst (v := 5) hx hb d_Model_running_339 (by decide) ?_
      refine va_put (D := (dC, dI)) (ci := 12) (v := .int 5) (ty := .int) (C := R_Model) (T := F_Model) (N := 127) hx hb htt iw_Model t_Model t_Model_ok n_Model hown hK hP hD hS 0 yo_12 rfl 102 (Nat.le_of_ble_eq_true rfl) (htt _ lk_Model_559) (fun _ h9 => h9) rfl (by decide +kernel) rfl rfl yl_102 d_Model_running_340 (fun H locs hP hD hS => ?_)
      obtain ⟨i_148, ei_148⟩ : ∃ y9 : Nat → Int32, y9 = upd i 102 5 := ⟨_, rfl⟩
      replace hm := ob1_at ei_148 hm
      obtain ⟨hP, hD⟩ := yw_102 ei_148 hP hD
      refine lv_ldc2 (v := 3) hx hb hown (htt _ lk_Model_7) d_Model_running_343 ?_
      obtain ⟨e1i, e1j, e1a, e1b, e3⟩ := re4m hm
      obtain ⟨hP, hD⟩ := y_eq e1i e1j e1a e1b hP hD
      exact W.lret hx hb hr (fun t9 ht hW => ⟨⟨_, (), rfl, e3.symm, by rw [ht]; exact hP, hD⟩, hS.F ht⟩) hS.2.2 d_Model_running_346
    · replace hm := if_t c_146 hm
      refine lv_aload_n hx hb d_Model_running_326 rfl (lv_at hl 0 rfl) ?_
      refine lv_bipush (v := 12) hx hb d_Model_running_327 (by decide) ?_
      obtain ⟨i_150, j_151, a_152, b_153, r_154, h_149, hm⟩ := om_some hm
      have hFc := x_free hD hS hA
      refine va_calll (va_runV (As := [.int 12]) (rest := []) ⟨hx, hb, hml, hown, hts⟩ (x_Model_fails l dC dI cI cJ cB adK adV adA h v s.heap.size n h_149) (cwV 1 hts (tw_GV tw_cons cw_Model_fails lk_Model_596 in_Model_fails sel_Model_fails ini_Model) rfl rfl rfl ⟨rfl, hd_Model_fails⟩ (gR_fit (d + 1) (Nat.le_of_ble_eq_true rfl) (Nat.le_of_ble_eq_true rfl))) (ypV hK hP hD hS hE hFc yo_12 rfl) rfl rfl hl.1 rfl (lv_room (Nat.le_of_ble_eq_true rfl)) d_Model_running_329 ⟨Nat.le_of_ble_eq_true rfl, Nat.le_of_ble_eq_true rfl⟩) hS (fun q _ h => hFc q h) hFc (fun r9 u9 t9 H locs ht hvm e9 hB hz1 hk1 hS => ?_)
      have e9 : r_154 = r9 := e9
      subst e9
      obtain ⟨hP, hD⟩ := y_aft hB ht hFc
      clear hFc hk1 hz1 hvm hB ht
      obtain ⟨e1i, e1j, e1a, e1b, e3⟩ := re4m hm
      obtain ⟨hP, hD⟩ := y_eq e1i e1j e1a e1b hP hD
      exact W.lret hx hb hr (fun t9 ht hW => ⟨⟨_, (), rfl, e3.symm, by rw [ht]; exact hP, hD⟩, hS.F ht⟩) hS.2.2 d_Model_running_332
  replace hm := if_f c_145 hm
  rcases Classical.em (v1 = 68) with c_155 | c_155
  · replace hm := if_t c_155 hm
    refine lv_tableIn (x := v1) (tgt := 347) hx hb d_Model_running_1 (by rw [c_155]; decide) (by rw [c_155]; decide) (by rw [c_155]; rfl) (by decide) ?_
    refine lv_aload_n hx hb d_Model_running_347 rfl (lv_at hl 0 rfl) ?_
    obtain ⟨i_157, j_158, a_159, b_160, r_161, h_156, hm⟩ := om_some hm
    have hFc := x_free hD hS hA
    refine va_calli (va_runV (As := []) (rest := []) ⟨hx, hb, hml, hown, hts⟩ (x_Model_hasLevel l dC dI cI cJ cB adK adV adA h v s.heap.size n h_156) (cwV 0 hts (tw_GV tw_cons cw_Model_hasLevel lk_Model_646 in_Model_hasLevel sel_Model_hasLevel ini_Model) rfl rfl rfl ⟨rfl, hd_Model_hasLevel⟩ (gR_fit (d + 1) (Nat.le_of_ble_eq_true rfl) (Nat.le_of_ble_eq_true rfl))) (ypV hK hP hD hS hE hFc yo_12 rfl) rfl rfl hl.1 rfl (lv_room (Nat.le_of_ble_eq_true rfl)) d_Model_running_348 ⟨Nat.le_of_ble_eq_true rfl, Nat.le_of_ble_eq_true rfl⟩) hS (fun q _ h => hFc q h) hFc (fun r9 u9 t9 H locs ht hvm e9 hB hz1 hk1 hS => ?_)
    have e9 : r_161 = r9 := e9
    subst e9
    obtain ⟨hP, hD⟩ := y_aft hB ht hFc
    clear hFc hk1 hz1 hvm hB ht
    refine lv_if_eq (tgt := 364) hx hb d_Model_running_351 (by decide) (fun c_162 => ?_) (fun c_162 => ?_)
    · replace hm := if_t c_162 hm
      refine lv_ldc2 (v := 3) hx hb hown (htt _ lk_Model_7) d_Model_running_364 ?_
      obtain ⟨e1i, e1j, e1a, e1b, e3⟩ := re4m hm
      obtain ⟨hP, hD⟩ := y_eq e1i e1j e1a e1b hP hD
      exact W.lret hx hb hr (fun t9 ht hW => ⟨⟨_, (), rfl, e3.symm, by rw [ht]; exact hP, hD⟩, hS.F ht⟩) hS.2.2 d_Model_running_367
    · replace hm := if_f c_162 hm
      refine lv_aload_n hx hb d_Model_running_354 rfl (lv_at hl 0 rfl) ?_
      refine lv_lload_n hx hb d_Model_running_355 rfl (lv_at hl 2 rfl) ?_
      refine lv_lload hx hb d_Model_running_356 (lv_at hl 3 rfl) ?_
      obtain ⟨i_164, j_165, a_166, b_167, r_168, h_163, hm⟩ := om_some hm
      have hFc := x_free hD hS hA
      refine va_calll (va_runV (As := [.long v2, .long v4]) (rest := []) ⟨hx, hb, hml, hown, hts⟩ (HG.2.2.2.2.2.2.2.2.2.2 H.size _ _ _ _ _ _ _ _ _ _ _ h_163) (cwV 2 hts (tw_GV tw_cons cw_Model_caught lk_Model_776 in_Model_caught sel_Model_caught ini_Model) rfl rfl rfl ⟨rfl, hd_Model_caught⟩ (gR_up (by decide))) (ypV hK hP hD hS hE hFc yo_12 rfl) rfl rfl hl.1 rfl (lv_room (Nat.le_of_ble_eq_true rfl)) d_Model_running_358 ⟨Nat.le_of_ble_eq_true rfl, Nat.le_of_ble_eq_true rfl⟩) hS (fun q _ h => hFc q h) hFc (fun r9 u9 t9 H locs ht hvm e9 hB hz1 hk1 hS => ?_)
      have e9 : r_168 = r9 := e9
      subst e9
      obtain ⟨hP, hD⟩ := y_aft hB ht hFc
      clear hFc hk1 hz1 hvm hB ht
      refine lv_goto (tgt := 367) hx hb d_Model_running_361 (by decide) ?_
      obtain ⟨e1i, e1j, e1a, e1b, e3⟩ := re4m hm
      obtain ⟨hP, hD⟩ := y_eq e1i e1j e1a e1b hP hD
      exact W.lret hx hb hr (fun t9 ht hW => ⟨⟨_, (), rfl, e3.symm, by rw [ht]; exact hP, hD⟩, hS.F ht⟩) hS.2.2 d_Model_running_367
  replace hm := if_f c_155 hm
  rcases Classical.em (v1 = 69) with c_169 | c_169
  · replace hm := if_t c_169 hm
    refine lv_tableIn (x := v1) (tgt := 368) hx hb d_Model_running_1 (by rw [c_169]; decide) (by rw [c_169]; decide) (by rw [c_169]; rfl) (by decide) ?_
    refine lv_aload_n hx hb d_Model_running_368 rfl (lv_at hl 0 rfl) ?_
    refine lv_lload_n hx hb d_Model_running_369 rfl (lv_at hl 2 rfl) ?_
    obtain ⟨i_171, j_172, a_173, b_174, r_175, h_170, hm⟩ := om_some hm
    have hFc := x_free hD hS hA
    refine va_calll (va_runV (As := [.long v2]) (rest := []) ⟨hx, hb, hml, hown, hts⟩ (x_Model_throwing l dC dI cI cJ cB adK adV adA h v s.heap.size n h_170) (cwV 1 hts (tw_GV tw_cons cw_Model_throwing lk_Model_779 in_Model_throwing sel_Model_throwing ini_Model) rfl rfl rfl ⟨rfl, hd_Model_throwing⟩ (gR_fit (d + 1) (Nat.le_of_ble_eq_true rfl) (Nat.le_of_ble_eq_true rfl))) (ypV hK hP hD hS hE hFc yo_12 rfl) rfl rfl hl.1 rfl (lv_room (Nat.le_of_ble_eq_true rfl)) d_Model_running_370 ⟨Nat.le_of_ble_eq_true rfl, Nat.le_of_ble_eq_true rfl⟩) hS (fun q _ h => hFc q h) hFc (fun r9 u9 t9 H locs ht hvm e9 hB hz1 hk1 hS => ?_)
    have e9 : r_175 = r9 := e9
    subst e9
    obtain ⟨hP, hD⟩ := y_aft hB ht hFc
    clear hFc hk1 hz1 hvm hB ht
    obtain ⟨e1i, e1j, e1a, e1b, e3⟩ := re4m hm
    obtain ⟨hP, hD⟩ := y_eq e1i e1j e1a e1b hP hD
    exact W.lret hx hb hr (fun t9 ht hW => ⟨⟨_, (), rfl, e3.symm, by rw [ht]; exact hP, hD⟩, hS.F ht⟩) hS.2.2 d_Model_running_373
  replace hm := if_f c_169 hm
  rcases Classical.em (v1 = 70) with c_176 | c_176
  · replace hm := if_t c_176 hm
    refine lv_tableIn (x := v1) (tgt := 374) hx hb d_Model_running_1 (by rw [c_176]; decide) (by rw [c_176]; decide) (by rw [c_176]; rfl) (by decide) ?_
    refine lv_aload_n hx hb d_Model_running_374 rfl (lv_at hl 0 rfl) ?_
    refine va_get (D := (dC, dI)) (ci := 12) (v := .int (i 95)) (C := R_Model) (T := F_Model) (N := 127) hx hb htt iw_Model hown hK hP 0 yo_12 rfl 95 (Nat.le_of_ble_eq_true rfl) (htt _ lk_Model_553) (fun _ h9 => h9) yg_95 d_Model_running_375 ?_
    refine lv_topi (fun x_177 ex_177 => ?_)
    replace hm := ob1_at ex_177 hm
    refine lv_istore (lv' := [(8, .int x_177), (0, .ref h), (1, .int v1), (2, .long v2), (4, .long v4), (6, .long v6)]) hx hb d_Model_running_378 hl (by decide) rfl (fun ls hl => ?_)
    refine lv_aload_n hx hb d_Model_running_380 rfl (lv_at hl 1 rfl) ?_
    refine lv_iconst (v := 0) hx hb d_Model_running_381 (by decide) ?_
    refine va_put (D := (dC, dI)) (ci := 12) (v := .int 0) (ty := .int) (C := R_Model) (T := F_Model) (N := 127) hx hb htt iw_Model t_Model t_Model_ok n_Model hown hK hP hD hS 0 yo_12 rfl 95 (Nat.le_of_ble_eq_true rfl) (htt _ lk_Model_553) (fun _ h9 => h9) rfl (by decide +kernel) rfl rfl yl_95 d_Model_running_382 (fun H locs hP hD hS => ?_)
    obtain ⟨i_178, ei_178⟩ : ∃ y9 : Nat → Int32, y9 = upd i 95 0 := ⟨_, rfl⟩
    replace hm := ob1_at ei_178 hm
    obtain ⟨hP, hD⟩ := yw_95 ei_178 hP hD
    refine lv_iload hx hb d_Model_running_385 (lv_at hl 0 rfl) ?_
    obtain ⟨r_180, h_179, hm⟩ := ob0_some hm
    have hFc := x_free0 hS hA
    refine va_calll (va_runS (As := [.int x_177]) (rest := []) ⟨hx, hb, hml, hown, hts⟩ (x_Model_number l H.size n h_179) (va_cwS 1 hts (tw_GS tw_cons cw_Model_number lk_Model_451 st_Model_number ini_Model) rfl rfl rfl hd_Model_number (gR_fit (d + 1) (Nat.le_of_ble_eq_true rfl) (Nat.le_of_ble_eq_true rfl))) xpS0 rfl rfl hl.1 rfl (lv_room (Nat.le_of_ble_eq_true rfl)) d_Model_running_387 ⟨Nat.le_of_ble_eq_true rfl, Nat.le_of_ble_eq_true rfl⟩) hS (fun q _ h => hFc q h) hFc (fun r9 u9 t9 H locs ht hvm e9 hB hz1 hk1 hS => ?_)
    have e9 : r_180 = r9 := e9
    subst e9
    replace hP := x_keep hP hk1
    clear hFc hk1 hz1 hvm hB ht
    obtain ⟨e1i, e1j, e1a, e1b, e3⟩ := re4m hm
    obtain ⟨hP, hD⟩ := y_eq e1i e1j e1a e1b hP hD
    exact W.lret hx hb hr (fun t9 ht hW => ⟨⟨_, (), rfl, e3.symm, by rw [ht]; exact hP, hD⟩, hS.F ht⟩) hS.2.2 d_Model_running_390
  replace hm := if_f c_176 hm
  refine lv_tableOut (x := v1) (tgt := 391) hx hb d_Model_running_1 (by have q0 := lv_neT c_1 (show (56 : Int32).toInt = 56 from by decide); have q1 := lv_neT c_15 (show (57 : Int32).toInt = 57 from by decide); have q2 := lv_neT c_32 (show (58 : Int32).toInt = 58 from by decide); have q3 := lv_neT c_55 (show (59 : Int32).toInt = 59 from by decide); have q4 := lv_neT c_64 (show (60 : Int32).toInt = 60 from by decide); have q5 := lv_neT c_75 (show (61 : Int32).toInt = 61 from by decide); have q6 := lv_neT c_82 (show (62 : Int32).toInt = 62 from by decide); have q7 := lv_neT c_96 (show (63 : Int32).toInt = 63 from by decide); have q8 := lv_neT c_113 (show (64 : Int32).toInt = 64 from by decide); have q9 := lv_neT c_127 (show (65 : Int32).toInt = 65 from by decide); have q10 := lv_neT c_143 (show (66 : Int32).toInt = 66 from by decide); have q11 := lv_neT c_145 (show (67 : Int32).toInt = 67 from by decide); have q12 := lv_neT c_155 (show (68 : Int32).toInt = 68 from by decide); have q13 := lv_neT c_169 (show (69 : Int32).toInt = 69 from by decide); have q14 := lv_neT c_176 (show (70 : Int32).toInt = 70 from by decide); omega) (by decide) ?_
  refine lv_aload_n hx hb d_Model_running_391 rfl (lv_at hl 0 rfl) ?_
  refine lv_lload_n hx hb d_Model_running_392 rfl (lv_at hl 2 rfl) ?_
  refine lv_iload_n hx hb d_Model_running_393 rfl (lv_at hl 1 rfl) ?_
  refine lv_bipush (v := 72) hx hb d_Model_running_394 (by decide) ?_
  refine lv_icmp_eq (tgt := 403) hx hb d_Model_running_396 (by decide) (fun c_181 => ?_) (fun c_181 => ?_)
  · replace hm := if_t c_181 hm
    refine lv_iconst (v := 0) hx hb d_Model_running_403 (by decide) ?_
    exact lb_Model_running_404 d G l dC dI cI cJ cB adK adV adA h v n HG hx hb hml hown hts hK hE hA hr hlocks _ _ _ _ _ _ _ hm _ _ _ hP hD hS (lv_sub hl [0, 1] rfl)
  · replace hm := if_f c_181 hm
    refine lv_iconst (v := 1) hx hb d_Model_running_399 (by decide) ?_
    refine lv_goto (tgt := 404) hx hb d_Model_running_400 (by decide) ?_
    exact lb_Model_running_404 d G l dC dI cI cJ cB adK adV adA h v n HG hx hb hml hown hts hK hE hA hr hlocks _ _ _ _ _ _ _ hm _ _ _ hP hD hS (lv_sub hl [0, 1] rfl)
