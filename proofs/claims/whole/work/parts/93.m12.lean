

def m_Model_repeated_b109 (n : Nat) (G : GB) (i : Nat → Int32) (j : Nat → Int64) (a : Nat → Nat → Int32) (b : Nat → Nat → Int64) (v4 : Int32) : Option ((Nat → Int32) × (Nat → Int64) × (Nat → Nat → Int32) × (Nat → Nat → Int64) × Int64) := if ((i 102)) = ((0 : Int32)) then ob1 (upd i 116 v4 : Nat → Int32) (fun i_2 => ob1 ((i_2 97) - 1 : Int32) (fun x_3 => ob1 (upd i_2 97 x_3 : Nat → Int32) (fun i_4 => some (i_4, j, a, b, 3)))) else some (i, j, a, b, 3)
set_option maxHeartbeats 4000000 in
set_option maxRecDepth 100000 in
theorem lb_Model_repeated_109 (d : Nat) (G : GB) (l : Launch) (dC : Nat → ClassId) (dI : Nat → Nat → Nat) (cI cJ cB : ClassId) (adK adV adA : Nat → Nat) (h : Nat) (v : Nat → Nat) (n : Nat) (HG : GH l dC dI cI cJ cB adK adV adA h v n G d) {p : Program} {e : Env} {s : State} {m : MethodId} {args : Array Value} {below : List Frame} {meth : Method} {c : Code} {A : Nat → Prop} (hx : p.tables.exec = Jvm.exec) (hb : c.code = b_Model_repeated) (hml : c.maxLocals = 8) (hown : s.vm.findClass R_Model = some m.cls) (hts : ∀ w ∈ w_Model_repeated, w.before args s = true) (hK : va_K (dC, dI) classes [(cI, .int), (cJ, .long), (cB, .byte)] s) (hE : tw_E adK adV adA A s s.heap) (hA : ∀ q : Nat, s.heap.size ≤ q → A q) (hr : meth.sig.returnType = (some .long)) (hlocks : meth.locks = false) {i2 : Nat → Int32} {j2 : Nat → Int64} {a2 : Nat → Nat → Int32} {b2 : Nat → Nat → Int64} {r2 : Int64} (i : Nat → Int32) (j : Nat → Int64) (a : Nat → Nat → Int32) (b : Nat → Nat → Int64) (v4 : Int32) (hm : m_Model_repeated_b109 n G i j a b v4 = some (i2, j2, a2, b2, r2)) : ∀ (H : Heap) (locs : List Loc) (ls : Array Slot), va_P (dC, dI) classes (MW cI cJ cB h v i j a b) H → va_D A (MW cI cJ cB h v i j a b) → va_S A s.heap H locs → lv_has ls 8 [(0, .ref h), (4, .int v4)] → W p l e (gR (d + 1)) s m args below meth c H locs 0 0 (MQ below (va_Ql (xR r2) (yB dC dI cI cJ cB h v i2 j2 a2 b2 A) A) args s 0 0 A) (F0 m 109 ls []) := by
  have htt : ∀ w ∈ tw_T, w.before _ s = true := fun w h => hts w (List.mem_cons_of_mem _ h)
  intro H locs ls hP hD hS hl
  rw [m_Model_repeated_b109] at hm
  refine lv_aload_n hx hb d_Model_repeated_109 rfl (lv_at hl 0 rfl) ?_
  refine va_get (D := (dC, dI)) (ci := 12) (v := .int (i 102)) (C := R_Model) (T := F_Model) (N := 127) hx hb htt iw_Model hown hK hP 0 yo_12 rfl 102 (Nat.le_of_ble_eq_true rfl) (htt _ lk_Model_559) (fun _ h9 => h9) yg_102 d_Model_repeated_110 ?_
  refine lv_if_ne (tgt := 132) hx hb d_Model_repeated_113 (by decide) (fun c_1 => ?_) (fun c_1 => ?_)
  · replace hm := if_f c_1 hm
    refine lv_ldc2 (v := 3) hx hb hown (htt _ lk_Model_7) d_Model_repeated_132 ?_
    obtain ⟨e1i, e1j, e1a, e1b, e3⟩ := re4m hm
    obtain ⟨hP, hD⟩ := y_eq e1i e1j e1a e1b hP hD
    exact W.lret hx hb hr (fun t9 ht hW => ⟨⟨_, (), rfl, e3.symm, by rw [ht]; exact hP, hD⟩, hS.F ht⟩) hS.2.2 d_Model_repeated_135
  · replace hm := if_t c_1 hm
    refine lv_aload_n hx hb d_Model_repeated_116 rfl (lv_at hl 0 rfl) ?_
    refine lv_iload hx hb d_Model_repeated_117 (lv_at hl 1 rfl) ?_
    refine va_put (D := (dC, dI)) (ci := 12) (v := .int v4) (ty := .int) (C := R_Model) (T := F_Model) (N := 127) hx hb htt iw_Model t_Model t_Model_ok n_Model hown hK hP hD hS 0 yo_12 rfl 116 (Nat.le_of_ble_eq_true rfl) (htt _ lk_Model_565) (fun _ h9 => h9) rfl (by decide +kernel) rfl rfl yl_116 d_Model_repeated_119 (fun H locs hP hD hS => ?_)
    obtain ⟨i_2, ei_2⟩ : ∃ y9 : Nat → Int32, y9 = upd i 116 v4 := ⟨_, rfl⟩
    replace hm := ob1_at ei_2 hm
    obtain ⟨hP, hD⟩ := yw_116 ei_2 hP hD
    refine lv_aload_n hx hb d_Model_repeated_122 rfl (lv_at hl 0 rfl) ?_
    refine lv_dup hx hb d_Model_repeated_123 rfl ?_
    refine va_get (D := (dC, dI)) (ci := 12) (v := .int (i_2 97)) (C := R_Model) (T := F_Model) (N := 127) hx hb htt iw_Model hown hK hP 0 yo_12 rfl 97 (Nat.le_of_ble_eq_true rfl) (htt _ lk_Model_532) (fun _ h9 => h9) yg_97 d_Model_repeated_124 ?_
    refine lv_iconst (v := 1) hx hb d_Model_repeated_127 (by decide) ?_
    refine lv_isub hx hb d_Model_repeated_128 ?_
    refine lv_topi (fun x_3 ex_3 => ?_)
    replace hm := ob1_at ex_3 hm
    refine va_put (D := (dC, dI)) (ci := 12) (v := .int x_3) (ty := .int) (C := R_Model) (T := F_Model) (N := 127) hx hb htt iw_Model t_Model t_Model_ok n_Model hown hK hP hD hS 0 yo_12 rfl 97 (Nat.le_of_ble_eq_true rfl) (htt _ lk_Model_532) (fun _ h9 => h9) rfl (by decide +kernel) rfl rfl yl_97 d_Model_repeated_129 (fun H locs hP hD hS => ?_)
    obtain ⟨i_4, ei_4⟩ : ∃ y9 : Nat → Int32, y9 = upd i_2 97 x_3 := ⟨_, rfl⟩
    replace hm := ob1_at ei_4 hm
    obtain ⟨hP, hD⟩ := yw_97 ei_4 hP hD
    refine lv_ldc2 (v := 3) hx hb hown (htt _ lk_Model_7) d_Model_repeated_132 ?_
    obtain ⟨e1i, e1j, e1a, e1b, e3⟩ := re4m hm
    obtain ⟨hP, hD⟩ := y_eq e1i e1j e1a e1b hP hD
    exact W.lret hx hb hr (fun t9 ht hW => ⟨⟨_, (), rfl, e3.symm, by rw [ht]; exact hP, hD⟩, hS.F ht⟩) hS.2.2 d_Model_repeated_135
def m_Model_repeated_b86 (n : Nat) (G : GB) (rc_56 : (Nat → Int32) → (Nat → Int64) → (Nat → Nat → Int32) → (Nat → Nat → Int64) → Int32 → Int64 → Int32 → Int32 → Option ((Nat → Int32) × (Nat → Int64) × (Nat → Nat → Int32) × (Nat → Nat → Int64) × Int64)) (i : Nat → Int32) (j : Nat → Int64) (a : Nat → Nat → Int32) (b : Nat → Nat → Int64) (v1 : Int32) (v2 : Int64) (v4 : Int32) (v5 : Int32) : Option ((Nat → Int32) × (Nat → Int64) × (Nat → Nat → Int32) × (Nat → Nat → Int64) × Int64) := ck v4 151 (ob1 (sv a 119 v4.toNatClampNeg v5 : Nat → Nat → Int32) (fun a_2 => om (G.2.2.2.1 i j a_2 b v2 (0 : Int32)) (fun i_4 j_5 a_6 b_7 r_8 => ob1 (v5 + 1 : Int32) (fun x_9 => rc_56 i_4 j_5 a_6 b_7 v1 v2 v4 x_9))))
set_option maxHeartbeats 4000000 in
set_option maxRecDepth 100000 in
theorem lb_Model_repeated_86 (d : Nat) (G : GB) (l : Launch) (dC : Nat → ClassId) (dI : Nat → Nat → Nat) (cI cJ cB : ClassId) (adK adV adA : Nat → Nat) (h : Nat) (v : Nat → Nat) (n : Nat) (HG : GH l dC dI cI cJ cB adK adV adA h v n G d) {p : Program} {e : Env} {s : State} {m : MethodId} {args : Array Value} {below : List Frame} {meth : Method} {c : Code} {A : Nat → Prop} (hx : p.tables.exec = Jvm.exec) (hb : c.code = b_Model_repeated) (hml : c.maxLocals = 8) (hown : s.vm.findClass R_Model = some m.cls) (hts : ∀ w ∈ w_Model_repeated, w.before args s = true) (hK : va_K (dC, dI) classes [(cI, .int), (cJ, .long), (cB, .byte)] s) (hE : tw_E adK adV adA A s s.heap) (hA : ∀ q : Nat, s.heap.size ≤ q → A q) (hr : meth.sig.returnType = (some .long)) (hlocks : meth.locks = false) {i2 : Nat → Int32} {j2 : Nat → Int64} {a2 : Nat → Nat → Int32} {b2 : Nat → Nat → Int64} {r2 : Int64} (rc_56 : (Nat → Int32) → (Nat → Int64) → (Nat → Nat → Int32) → (Nat → Nat → Int64) → Int32 → Int64 → Int32 → Int32 → Option ((Nat → Int32) × (Nat → Int64) × (Nat → Nat → Int32) × (Nat → Nat → Int64) × Int64)) (Hrc_56 : ∀ (i : Nat → Int32) (j : Nat → Int64) (a : Nat → Nat → Int32) (b : Nat → Nat → Int64) (v1 : Int32) (v2 : Int64) (v4 : Int32) (v5 : Int32), rc_56 i j a b v1 v2 v4 v5 = some (i2, j2, a2, b2, r2) → ∀ (H : Heap) (locs : List Loc) (ls : Array Slot), va_P (dC, dI) classes (MW cI cJ cB h v i j a b) H → va_D A (MW cI cJ cB h v i j a b) → va_S A s.heap H locs → lv_has ls 8 [(0, .ref h), (1, .int v1), (2, .long v2), (4, .int v4), (5, .int v5)] → W p l e (gR (d + 1)) s m args below meth c H locs 0 0 (MQ below (va_Ql (xR r2) (yB dC dI cI cJ cB h v i2 j2 a2 b2 A) A) args s 0 0 A) (F0 m 56 ls [])) (i : Nat → Int32) (j : Nat → Int64) (a : Nat → Nat → Int32) (b : Nat → Nat → Int64) (v1 : Int32) (v2 : Int64) (v4 : Int32) (v5 : Int32) (hm : m_Model_repeated_b86 n G rc_56 i j a b v1 v2 v4 v5 = some (i2, j2, a2, b2, r2)) : ∀ (H : Heap) (locs : List Loc) (ls : Array Slot), va_P (dC, dI) classes (MW cI cJ cB h v i j a b) H → va_D A (MW cI cJ cB h v i j a b) → va_S A s.heap H locs → lv_has ls 8 [(0, .ref h), (1, .int v1), (2, .long v2), (4, .int v4), (5, .int v5)] → W p l e (gR (d + 1)) s m args below meth c H locs 0 0 (MQ below (va_Ql (xR r2) (yB dC dI cI cJ cB h v i2 j2 a2 b2 A) A) args s 0 0 A) (F0 m 86 ls []) := by
  have htt : ∀ w ∈ tw_T, w.before _ s = true := fun w h => hts w (List.mem_cons_of_mem _ h)
  intro H locs ls hP hD hS hl
  rw [m_Model_repeated_b86] at hm
  refine lv_aload_n hx hb d_Model_repeated_86 rfl (lv_at hl 0 rfl) ?_
  refine va_get (D := (dC, dI)) (ci := 12) (v := .ref ((v 119))) (C := R_Model) (T := F_Model) (N := 127) hx hb htt iw_Model hown hK hP 0 yo_12 rfl 119 (Nat.le_of_ble_eq_true rfl) (htt _ lk_Model_316) (fun _ h9 => h9) yg_119 d_Model_repeated_87 ?_
  refine lv_iload hx hb d_Model_repeated_90 (lv_at hl 3 rfl) ?_
  refine lv_iload hx hb d_Model_repeated_92 (lv_at hl 4 rfl) ?_
  obtain ⟨h_1, hm⟩ := ck_some hm
  refine va_iast hx hb hK hP hD hS 66 0 ya_119 rfl h_1 d_Model_repeated_94 (fun H locs hP hD hS => ?_)
  obtain ⟨a_2, ea_2⟩ : ∃ y9 : Nat → Nat → Int32, y9 = sv a 119 v4.toNatClampNeg v5 := ⟨_, rfl⟩
  replace hm := ob1_at ea_2 hm
  obtain ⟨hP, hD⟩ := yv_119 ea_2 hP hD
  refine lv_aload_n hx hb d_Model_repeated_95 rfl (lv_at hl 0 rfl) ?_
  refine lv_lload_n hx hb d_Model_repeated_96 rfl (lv_at hl 2 rfl) ?_
  refine lv_iconst (v := 0) hx hb d_Model_repeated_97 (by decide) ?_
  obtain ⟨i_4, j_5, a_6, b_7, r_8, h_3, hm⟩ := om_some hm
  have hFc := x_free hD hS hA
  refine va_calll (va_runV (As := [.long v2, .int 0]) (rest := []) ⟨hx, hb, hml, hown, hts⟩ (HG.2.2.2.1 H.size _ _ _ _ _ _ _ _ _ _ _ h_3) (cwV 2 hts (tw_GV tw_cons cw_Model_runs lk_Model_642 in_Model_runs sel_Model_runs ini_Model) rfl rfl rfl ⟨rfl, hd_Model_runs⟩ (gR_up (by decide))) (ypV hK hP hD hS hE hFc yo_12 rfl) rfl rfl hl.1 rfl (lv_room (Nat.le_of_ble_eq_true rfl)) d_Model_repeated_98 ⟨Nat.le_of_ble_eq_true rfl, Nat.le_of_ble_eq_true rfl⟩) hS (fun q _ h => hFc q h) hFc (fun r9 u9 t9 H locs ht hvm e9 hB hz1 hk1 hS => ?_)
  have e9 : r_8 = r9 := e9
  subst e9
  obtain ⟨hP, hD⟩ := y_aft hB ht hFc
  clear hFc hk1 hz1 hvm hB ht
  refine lv_lstore (lv' := [(6, .long r_8), (0, .ref h), (1, .int v1), (2, .long v2), (4, .int v4), (5, .int v5)]) hx hb d_Model_repeated_101 hl (by decide) rfl (fun ls hl => ?_)
  obtain ⟨x_9, ex_9⟩ : ∃ y9 : Int32, y9 = v5 + 1 := ⟨_, rfl⟩
  replace hm := ob1_at ex_9 hm
  refine lv_iinc (v := x_9) (lv' := [(5, .int x_9), (6, .long r_8), (0, .ref h), (1, .int v1), (2, .long v2), (4, .int v4)]) hx hb d_Model_repeated_103 hl (k := 5) rfl (by rw [ex_9]; rfl) (by decide) rfl (fun ls hl => ?_)
  refine lv_goto (tgt := 56) hx hb d_Model_repeated_106 (by decide) ?_
  exact Hrc_56 _ _ _ _ _ _ _ _ hm _ _ _ hP hD hS (lv_sub hl [2, 3, 4, 5, 0] rfl)
def m_Model_repeated_b56 (n : Nat) (G : GB) : Nat → (Nat → Int32) → (Nat → Int64) → (Nat → Nat → Int32) → (Nat → Nat → Int64) → Int32 → Int64 → Int32 → Int32 → Option ((Nat → Int32) × (Nat → Int64) × (Nat → Nat → Int32) × (Nat → Nat → Int64) × Int64)
  | 0, _, _, _, _, _, _, _, _ => none
  | f + 1, i, j, a, b, v1, v2, v4, v5 => if v1 < v5 then m_Model_repeated_b109 n G i j a b v4 else if ((i 102)) = ((0 : Int32)) then if v5 ≤ ((1 : Int32)) then m_Model_repeated_b86 n G (m_Model_repeated_b56 n G f) i j a b v1 v2 v4 v5 else om (m_Model_begins n i j a b) (fun i_5 j_6 a_7 b_8 r_9 => if r_9 = ((0 : Int32)) then some (i_5, j_6, a_7, b_8, 3) else m_Model_repeated_b86 n G (m_Model_repeated_b56 n G f) i_5 j_6 a_7 b_8 v1 v2 v4 v5) else m_Model_repeated_b109 n G i j a b v4
set_option maxHeartbeats 4000000 in
set_option maxRecDepth 100000 in
theorem lb_Model_repeated_56 (d : Nat) (G : GB) (l : Launch) (dC : Nat → ClassId) (dI : Nat → Nat → Nat) (cI cJ cB : ClassId) (adK adV adA : Nat → Nat) (h : Nat) (v : Nat → Nat) (n : Nat) (HG : GH l dC dI cI cJ cB adK adV adA h v n G d) {p : Program} {e : Env} {s : State} {m : MethodId} {args : Array Value} {below : List Frame} {meth : Method} {c : Code} {A : Nat → Prop} (hx : p.tables.exec = Jvm.exec) (hb : c.code = b_Model_repeated) (hml : c.maxLocals = 8) (hown : s.vm.findClass R_Model = some m.cls) (hts : ∀ w ∈ w_Model_repeated, w.before args s = true) (hK : va_K (dC, dI) classes [(cI, .int), (cJ, .long), (cB, .byte)] s) (hE : tw_E adK adV adA A s s.heap) (hA : ∀ q : Nat, s.heap.size ≤ q → A q) (hr : meth.sig.returnType = (some .long)) (hlocks : meth.locks = false) {i2 : Nat → Int32} {j2 : Nat → Int64} {a2 : Nat → Nat → Int32} {b2 : Nat → Nat → Int64} {r2 : Int64} : ∀ (f : Nat) (i : Nat → Int32) (j : Nat → Int64) (a : Nat → Nat → Int32) (b : Nat → Nat → Int64) (v1 : Int32) (v2 : Int64) (v4 : Int32) (v5 : Int32), m_Model_repeated_b56 n G f i j a b v1 v2 v4 v5 = some (i2, j2, a2, b2, r2) → ∀ (H : Heap) (locs : List Loc) (ls : Array Slot), va_P (dC, dI) classes (MW cI cJ cB h v i j a b) H → va_D A (MW cI cJ cB h v i j a b) → va_S A s.heap H locs → lv_has ls 8 [(0, .ref h), (1, .int v1), (2, .long v2), (4, .int v4), (5, .int v5)] → W p l e (gR (d + 1)) s m args below meth c H locs 0 0 (MQ below (va_Ql (xR r2) (yB dC dI cI cJ cB h v i2 j2 a2 b2 A) A) args s 0 0 A) (F0 m 56 ls []) := by
  have htt : ∀ w ∈ tw_T, w.before _ s = true := fun w h => hts w (List.mem_cons_of_mem _ h)
  intro f
  induction f with
  | zero =>
    intro i j a b v1 v2 v4 v5 hm
    rw [m_Model_repeated_b56] at hm
    cases hm
  | succ f ih =>
    intro i j a b v1 v2 v4 v5 hm H locs ls hP hD hS hl
    rw [m_Model_repeated_b56] at hm
    refine lv_iload hx hb d_Model_repeated_56 (lv_at hl 4 rfl) ?_
    refine lv_iload_n hx hb d_Model_repeated_58 rfl (lv_at hl 1 rfl) ?_
    refine lv_icmp_gt (tgt := 109) hx hb d_Model_repeated_59 (by decide) (fun c_1 => ?_) (fun c_1 => ?_)
    · replace hm := if_t c_1 hm
      exact lb_Model_repeated_109 d G l dC dI cI cJ cB adK adV adA h v n HG hx hb hml hown hts hK hE hA hr hlocks _ _ _ _ _ hm _ _ _ hP hD hS (lv_sub hl [0, 3] rfl)
    · replace hm := if_f c_1 hm
      refine lv_aload_n hx hb d_Model_repeated_62 rfl (lv_at hl 0 rfl) ?_
      refine va_get (D := (dC, dI)) (ci := 12) (v := .int (i 102)) (C := R_Model) (T := F_Model) (N := 127) hx hb htt iw_Model hown hK hP 0 yo_12 rfl 102 (Nat.le_of_ble_eq_true rfl) (htt _ lk_Model_559) (fun _ h9 => h9) yg_102 d_Model_repeated_63 ?_
      refine lv_if_ne (tgt := 109) hx hb d_Model_repeated_66 (by decide) (fun c_2 => ?_) (fun c_2 => ?_)
      · replace hm := if_f c_2 hm
        exact lb_Model_repeated_109 d G l dC dI cI cJ cB adK adV adA h v n HG hx hb hml hown hts hK hE hA hr hlocks _ _ _ _ _ hm _ _ _ hP hD hS (lv_sub hl [0, 3] rfl)
      · replace hm := if_t c_2 hm
        refine lv_iload hx hb d_Model_repeated_69 (lv_at hl 4 rfl) ?_
        refine lv_iconst (v := 1) hx hb d_Model_repeated_71 (by decide) ?_
        refine lv_icmp_le (tgt := 86) hx hb d_Model_repeated_72 (by decide) (fun c_3 => ?_) (fun c_3 => ?_)
        · replace hm := if_t c_3 hm
          exact lb_Model_repeated_86 d G l dC dI cI cJ cB adK adV adA h v n HG hx hb hml hown hts hK hE hA hr hlocks (m_Model_repeated_b56 n G f) ih _ _ _ _ _ _ _ _ hm _ _ _ hP hD hS (lv_sub hl [0, 1, 2, 3, 4] rfl)
        · replace hm := if_f c_3 hm
          refine lv_aload_n hx hb d_Model_repeated_75 rfl (lv_at hl 0 rfl) ?_
          obtain ⟨i_5, j_6, a_7, b_8, r_9, h_4, hm⟩ := om_some hm
          have hFc := x_free hD hS hA
          refine va_calli (va_runV (As := []) (rest := []) ⟨hx, hb, hml, hown, hts⟩ (x_Model_begins l dC dI cI cJ cB adK adV adA h v H.size n h_4) (cwV 0 hts (tw_GV tw_cons cw_Model_begins lk_Model_620 in_Model_begins sel_Model_begins ini_Model) rfl rfl rfl ⟨rfl, hd_Model_begins⟩ (gR_fit (d + 1) (Nat.le_of_ble_eq_true rfl) (Nat.le_of_ble_eq_true rfl))) (ypV hK hP hD hS hE hFc yo_12 rfl) rfl rfl hl.1 rfl (lv_room (Nat.le_of_ble_eq_true rfl)) d_Model_repeated_76 ⟨Nat.le_of_ble_eq_true rfl, Nat.le_of_ble_eq_true rfl⟩) hS (fun q _ h => hFc q h) hFc (fun r9 u9 t9 H locs ht hvm e9 hB hz1 hk1 hS => ?_)
          have e9 : r_9 = r9 := e9
          subst e9
          obtain ⟨hP, hD⟩ := y_aft hB ht hFc
          clear hFc hk1 hz1 hvm hB ht
          refine lv_if_ne (tgt := 86) hx hb d_Model_repeated_79 (by decide) (fun c_10 => ?_) (fun c_10 => ?_)
          · replace hm := if_f c_10 hm
            exact lb_Model_repeated_86 d G l dC dI cI cJ cB adK adV adA h v n HG hx hb hml hown hts hK hE hA hr hlocks (m_Model_repeated_b56 n G f) ih _ _ _ _ _ _ _ _ hm _ _ _ hP hD hS (lv_sub hl [0, 1, 2, 3, 4] rfl)
          · replace hm := if_t c_10 hm
            refine lv_ldc2 (v := 3) hx hb hown (htt _ lk_Model_7) d_Model_repeated_82 ?_
            obtain ⟨e1i, e1j, e1a, e1b, e3⟩ := re4m hm
            obtain ⟨hP, hD⟩ := y_eq e1i e1j e1a e1b hP hD
            exact W.lret hx hb hr (fun t9 ht hW => ⟨⟨_, (), rfl, e3.symm, by rw [ht]; exact hP, hD⟩, hS.F ht⟩) hS.2.2 d_Model_repeated_85
def m_Model_repeated (n : Nat) (G : GB) (i : Nat → Int32) (j : Nat → Int64) (a : Nat → Nat → Int32) (b : Nat → Nat → Int64) (v1 : Int32) (v2 : Int64) : Option ((Nat → Int32) × (Nat → Int64) × (Nat → Nat → Int32) × (Nat → Nat → Int64) × Int64) := if v1 < ((1 : Int32)) then some (i, j, a, b, 3) else om (m_Model_hasLevel n i j a b) (fun i_3 j_4 a_5 b_6 r_7 => if r_7 = ((0 : Int32)) then some (i_3, j_4, a_5, b_6, 3) else ob1 (i_3 116 : Int32) (fun x_9 => ck x_9 151 (ob1 (sv a_5 120 x_9.toNatClampNeg (i_3 99) : Nat → Nat → Int32) (fun a_11 => ob1 ((i_3 116) + 1 : Int32) (fun x_12 => ob1 (upd i_3 116 x_12 : Nat → Int32) (fun i_13 => ob1 ((i_13 97) + 1 : Int32) (fun x_14 => ob1 (upd i_13 97 x_14 : Nat → Int32) (fun i_15 => m_Model_repeated_b56 n G n i_15 j_4 a_11 b_6 v1 v2 x_9 (1 : Int32)))))))))
set_option maxHeartbeats 4000000 in
set_option maxRecDepth 100000 in
theorem x_Model_repeated (d : Nat) (G : GB) (l : Launch) (dC : Nat → ClassId) (dI : Nat → Nat → Nat) (cI cJ cB : ClassId) (adK adV adA : Nat → Nat) (h : Nat) (v : Nat → Nat) (sz : Nat) (n : Nat) (HG : GH l dC dI cI cJ cB adK adV adA h v n G d) {i : Nat → Int32} {j : Nat → Int64} {a : Nat → Nat → Int32} {b : Nat → Nat → Int64} {v1 : Int32} {v2 : Int64} {i2 : Nat → Int32} {j2 : Nat → Int64} {a2 : Nat → Nat → Int32} {b2 : Nat → Nat → Int64} {r2 : Int64} (hm : m_Model_repeated n G i j a b v1 v2 = some (i2, j2, a2, b2, r2)) : Met l y_Model_repeated w_Model_repeated (gR (d + 1)) (va_Pc [.ref h, .int v1, .long v2] (yE dC dI cI cJ cB adK adV adA h v i j a b sz)) (va_Ql (xR r2) (yB dC dI cI cJ cB h v i2 j2 a2 b2 (va_A (MW cI cJ cB h v i j a b) sz)) (va_A (MW cI cJ cB h v i j a b) sz)) 0 0 ((va_A (MW cI cJ cB h v i j a b) sz)) := by
  refine Met.ofW (cc := b_Model_repeated) (maxL := 8) (ret := (some .long)) (by decide) rfl ?_
  intro p e s m args below meth c s₁ B hml hv
  obtain ⟨rfl, hsz, hP, hK, hE, hD0⟩ := hv
  have hx := B.exec
  have hb := B.bytes
  have hr := B.returns
  have hts := atoms_spec (ws := w_Model_repeated) B.pre
  have htt : ∀ w ∈ tw_T, w.before _ s = true := fun w h => hts w (List.mem_cons_of_mem _ h)
  have hown : s.vm.findClass R_Model = some m.cls := findClass_of_methodNamed B.named
  have hlocks := B.notSynchronized
  subst hsz
  have hD := hD0.self (sz := s.heap.size)
  generalize hAe : (va_A (MW cI cJ cB h v i j a b) s.heap.size) = A at hD hE ⊢
  have hA : ∀ q : Nat, s.heap.size ≤ q → A q := fun q h => by rw [← hAe]; exact Or.inr h
  have hS : va_S A s.heap s.heap [] := va_S.rf
  have hl := lv_entry ([.ref h, .int v1, .long v2]) (n := 8) (Nat.le_of_ble_eq_true rfl)
  rw [lg_entry_eq]
  generalize (lg_sl ([.ref h, .int v1, .long v2]) ++ List.replicate (8 - (lg_sl ([.ref h, .int v1, .long v2])).length) Slot.unset).toArray = ls at hl ⊢
  have hl : lv_has ls 8 [(0, .ref h), (1, .int v1), (2, .long v2)] := hl
  rw [m_Model_repeated] at hm
  refine lv_iload_n hx hb d_Model_repeated_0 rfl (lv_at hl 1 rfl) ?_
  refine lv_iconst (v := 1) hx hb d_Model_repeated_1 (by decide) ?_
  refine lv_icmp_lt (tgt := 12) hx hb d_Model_repeated_2 (by decide) (fun c_1 => ?_) (fun c_1 => ?_)
  · replace hm := if_t c_1 hm
    refine lv_ldc2 (v := 3) hx hb hown (htt _ lk_Model_7) d_Model_repeated_12 ?_
    obtain ⟨e1i, e1j, e1a, e1b, e3⟩ := re4m hm
    obtain ⟨hP, hD⟩ := y_eq e1i e1j e1a e1b hP hD
    exact W.lret hx hb hr (fun t9 ht hW => ⟨⟨_, (), rfl, e3.symm, by rw [ht]; exact hP, hD⟩, hS.F ht⟩) hS.2.2 d_Model_repeated_15
  · replace hm := if_f c_1 hm
    refine lv_aload_n hx hb d_Model_repeated_5 rfl (lv_at hl 0 rfl) ?_
    obtain ⟨i_3, j_4, a_5, b_6, r_7, h_2, hm⟩ := om_some hm
    have hFc := x_free hD hS hA
    refine va_calli (va_runV (As := []) (rest := []) ⟨hx, hb, hml, hown, hts⟩ (x_Model_hasLevel l dC dI cI cJ cB adK adV adA h v s.heap.size n h_2) (cwV 0 hts (tw_GV tw_cons cw_Model_hasLevel lk_Model_646 in_Model_hasLevel sel_Model_hasLevel ini_Model) rfl rfl rfl ⟨rfl, hd_Model_hasLevel⟩ (gR_fit (d + 1) (Nat.le_of_ble_eq_true rfl) (Nat.le_of_ble_eq_true rfl))) (ypV hK hP hD hS hE hFc yo_12 rfl) rfl rfl hl.1 rfl (lv_room (Nat.le_of_ble_eq_true rfl)) d_Model_repeated_6 ⟨Nat.le_of_ble_eq_true rfl, Nat.le_of_ble_eq_true rfl⟩) hS (fun q _ h => hFc q h) hFc (fun r9 u9 t9 H locs ht hvm e9 hB hz1 hk1 hS => ?_)
    have e9 : r_7 = r9 := e9
    subst e9
    obtain ⟨hP, hD⟩ := y_aft hB ht hFc
    clear hFc hk1 hz1 hvm hB ht
    refine lv_if_ne (tgt := 16) hx hb d_Model_repeated_9 (by decide) (fun c_8 => ?_) (fun c_8 => ?_)
    · replace hm := if_f c_8 hm
      refine lv_aload_n hx hb d_Model_repeated_16 rfl (lv_at hl 0 rfl) ?_
      refine va_get (D := (dC, dI)) (ci := 12) (v := .int (i_3 116)) (C := R_Model) (T := F_Model) (N := 127) hx hb htt iw_Model hown hK hP 0 yo_12 rfl 116 (Nat.le_of_ble_eq_true rfl) (htt _ lk_Model_565) (fun _ h9 => h9) yg_116 d_Model_repeated_17 ?_
      refine lv_topi (fun x_9 ex_9 => ?_)
      replace hm := ob1_at ex_9 hm
      refine lv_istore (lv' := [(4, .int x_9), (0, .ref h), (1, .int v1), (2, .long v2)]) hx hb d_Model_repeated_20 hl (by decide) rfl (fun ls hl => ?_)
      refine lv_aload_n hx hb d_Model_repeated_22 rfl (lv_at hl 1 rfl) ?_
      refine va_get (D := (dC, dI)) (ci := 12) (v := .ref ((v 120))) (C := R_Model) (T := F_Model) (N := 127) hx hb htt iw_Model hown hK hP 0 yo_12 rfl 120 (Nat.le_of_ble_eq_true rfl) (htt _ lk_Model_319) (fun _ h9 => h9) yg_120 d_Model_repeated_23 ?_
      refine lv_iload hx hb d_Model_repeated_26 (lv_at hl 0 rfl) ?_
      refine lv_aload_n hx hb d_Model_repeated_28 rfl (lv_at hl 1 rfl) ?_
      refine va_get (D := (dC, dI)) (ci := 12) (v := .int (i_3 99)) (C := R_Model) (T := F_Model) (N := 127) hx hb htt iw_Model hown hK hP 0 yo_12 rfl 99 (Nat.le_of_ble_eq_true rfl) (htt _ lk_Model_538) (fun _ h9 => h9) yg_99 d_Model_repeated_29 ?_
      obtain ⟨h_10, hm⟩ := ck_some hm
      refine va_iast hx hb hK hP hD hS 67 0 ya_120 rfl h_10 d_Model_repeated_32 (fun H locs hP hD hS => ?_)
      obtain ⟨a_11, ea_11⟩ : ∃ y9 : Nat → Nat → Int32, y9 = sv a_5 120 x_9.toNatClampNeg (i_3 99) := ⟨_, rfl⟩
      replace hm := ob1_at ea_11 hm
      obtain ⟨hP, hD⟩ := yv_120 ea_11 hP hD
      refine lv_aload_n hx hb d_Model_repeated_33 rfl (lv_at hl 1 rfl) ?_
      refine lv_dup hx hb d_Model_repeated_34 rfl ?_
      refine va_get (D := (dC, dI)) (ci := 12) (v := .int (i_3 116)) (C := R_Model) (T := F_Model) (N := 127) hx hb htt iw_Model hown hK hP 0 yo_12 rfl 116 (Nat.le_of_ble_eq_true rfl) (htt _ lk_Model_565) (fun _ h9 => h9) yg_116 d_Model_repeated_35 ?_
      refine lv_iconst (v := 1) hx hb d_Model_repeated_38 (by decide) ?_
      refine lv_iadd hx hb d_Model_repeated_39 ?_
      refine lv_topi (fun x_12 ex_12 => ?_)
      replace hm := ob1_at ex_12 hm
      refine va_put (D := (dC, dI)) (ci := 12) (v := .int x_12) (ty := .int) (C := R_Model) (T := F_Model) (N := 127) hx hb htt iw_Model t_Model t_Model_ok n_Model hown hK hP hD hS 0 yo_12 rfl 116 (Nat.le_of_ble_eq_true rfl) (htt _ lk_Model_565) (fun _ h9 => h9) rfl (by decide +kernel) rfl rfl yl_116 d_Model_repeated_40 (fun H locs hP hD hS => ?_)
      obtain ⟨i_13, ei_13⟩ : ∃ y9 : Nat → Int32, y9 = upd i_3 116 x_12 := ⟨_, rfl⟩
      replace hm := ob1_at ei_13 hm
      obtain ⟨hP, hD⟩ := yw_116 ei_13 hP hD
      refine lv_aload_n hx hb d_Model_repeated_43 rfl (lv_at hl 1 rfl) ?_
      refine lv_dup hx hb d_Model_repeated_44 rfl ?_
      refine va_get (D := (dC, dI)) (ci := 12) (v := .int (i_13 97)) (C := R_Model) (T := F_Model) (N := 127) hx hb htt iw_Model hown hK hP 0 yo_12 rfl 97 (Nat.le_of_ble_eq_true rfl) (htt _ lk_Model_532) (fun _ h9 => h9) yg_97 d_Model_repeated_45 ?_
      refine lv_iconst (v := 1) hx hb d_Model_repeated_48 (by decide) ?_
      refine lv_iadd hx hb d_Model_repeated_49 ?_
      refine lv_topi (fun x_14 ex_14 => ?_)
      replace hm := ob1_at ex_14 hm
      refine va_put (D := (dC, dI)) (ci := 12) (v := .int x_14) (ty := .int) (C := R_Model) (T := F_Model) (N := 127) hx hb htt iw_Model t_Model t_Model_ok n_Model hown hK hP hD hS 0 yo_12 rfl 97 (Nat.le_of_ble_eq_true rfl) (htt _ lk_Model_532) (fun _ h9 => h9) rfl (by decide +kernel) rfl rfl yl_97 d_Model_repeated_50 (fun H locs hP hD hS => ?_)
      obtain ⟨i_15, ei_15⟩ : ∃ y9 : Nat → Int32, y9 = upd i_13 97 x_14 := ⟨_, rfl⟩
      replace hm := ob1_at ei_15 hm
      obtain ⟨hP, hD⟩ := yw_97 ei_15 hP hD
      refine lv_iconst (v := 1) hx hb d_Model_repeated_53 (by decide) ?_
      refine lv_istore (lv' := [(5, .int 1), (4, .int x_9), (0, .ref h), (1, .int v1), (2, .long v2)]) hx hb d_Model_repeated_54 hl (by decide) rfl (fun ls hl => ?_)
      exact lb_Model_repeated_56 d G l dC dI cI cJ cB adK adV adA h v n HG hx hb hml hown hts hK hE hA hr hlocks n _ _ _ _ _ _ _ _ hm _ _ _ hP hD hS (lv_sub hl [2, 3, 4, 1, 0] rfl)
    · replace hm := if_t c_8 hm
      refine lv_ldc2 (v := 3) hx hb hown (htt _ lk_Model_7) d_Model_repeated_12 ?_
      obtain ⟨e1i, e1j, e1a, e1b, e3⟩ := re4m hm
      obtain ⟨hP, hD⟩ := y_eq e1i e1j e1a e1b hP hD
      exact W.lret hx hb hr (fun t9 ht hW => ⟨⟨_, (), rfl, e3.symm, by rw [ht]; exact hP, hD⟩, hS.F ht⟩) hS.2.2 d_Model_repeated_15

def m_Model_whiled_b117 (n : Nat) (G : GB) (rc_24 : (Nat → Int32) → (Nat → Int64) → (Nat → Nat → Int32) → (Nat → Nat → Int64) → Int64 → Int64 → Int32 → Option ((Nat → Int32) × (Nat → Int64) × (Nat → Nat → Int32) × (Nat → Nat → Int64) × Int64)) (i : Nat → Int32) (j : Nat → Int64) (a : Nat → Nat → Int32) (b : Nat → Nat → Int64) (v1 : Int64) (v3 : Int64) (v5 : Int32) : Option ((Nat → Int32) × (Nat → Int64) × (Nat → Nat → Int32) × (Nat → Nat → Int64) × Int64) := rc_24 i j a b v1 v3 v5
set_option maxHeartbeats 4000000 in
set_option maxRecDepth 100000 in
theorem lb_Model_whiled_117 (d : Nat) (G : GB) (l : Launch) (dC : Nat → ClassId) (dI : Nat → Nat → Nat) (cI cJ cB : ClassId) (adK adV adA : Nat → Nat) (h : Nat) (v : Nat → Nat) (n : Nat) (HG : GH l dC dI cI cJ cB adK adV adA h v n G d) {p : Program} {e : Env} {s : State} {m : MethodId} {args : Array Value} {below : List Frame} {meth : Method} {c : Code} {A : Nat → Prop} (hx : p.tables.exec = Jvm.exec) (hb : c.code = b_Model_whiled) (hml : c.maxLocals = 8) (hown : s.vm.findClass R_Model = some m.cls) (hts : ∀ w ∈ w_Model_whiled, w.before args s = true) (hK : va_K (dC, dI) classes [(cI, .int), (cJ, .long), (cB, .byte)] s) (hE : tw_E adK adV adA A s s.heap) (hA : ∀ q : Nat, s.heap.size ≤ q → A q) (hr : meth.sig.returnType = (some .long)) (hlocks : meth.locks = false) {i2 : Nat → Int32} {j2 : Nat → Int64} {a2 : Nat → Nat → Int32} {b2 : Nat → Nat → Int64} {r2 : Int64} (rc_24 : (Nat → Int32) → (Nat → Int64) → (Nat → Nat → Int32) → (Nat → Nat → Int64) → Int64 → Int64 → Int32 → Option ((Nat → Int32) × (Nat → Int64) × (Nat → Nat → Int32) × (Nat → Nat → Int64) × Int64)) (Hrc_24 : ∀ (i : Nat → Int32) (j : Nat → Int64) (a : Nat → Nat → Int32) (b : Nat → Nat → Int64) (v1 : Int64) (v3 : Int64) (v5 : Int32), rc_24 i j a b v1 v3 v5 = some (i2, j2, a2, b2, r2) → ∀ (H : Heap) (locs : List Loc) (ls : Array Slot), va_P (dC, dI) classes (MW cI cJ cB h v i j a b) H → va_D A (MW cI cJ cB h v i j a b) → va_S A s.heap H locs → lv_has ls 8 [(0, .ref h), (1, .long v1), (3, .long v3), (5, .int v5)] → W p l e (gR (d + 1)) s m args below meth c H locs 0 0 (MQ below (va_Ql (xR r2) (yB dC dI cI cJ cB h v i2 j2 a2 b2 A) A) args s 0 0 A) (F0 m 24 ls [])) (i : Nat → Int32) (j : Nat → Int64) (a : Nat → Nat → Int32) (b : Nat → Nat → Int64) (v1 : Int64) (v3 : Int64) (v5 : Int32) (hm : m_Model_whiled_b117 n G rc_24 i j a b v1 v3 v5 = some (i2, j2, a2, b2, r2)) : ∀ (H : Heap) (locs : List Loc) (ls : Array Slot), va_P (dC, dI) classes (MW cI cJ cB h v i j a b) H → va_D A (MW cI cJ cB h v i j a b) → va_S A s.heap H locs → lv_has ls 8 [(0, .ref h), (1, .long v1), (3, .long v3), (5, .int v5)] → W p l e (gR (d + 1)) s m args below meth c H locs 0 0 (MQ below (va_Ql (xR r2) (yB dC dI cI cJ cB h v i2 j2 a2 b2 A) A) args s 0 0 A) (F0 m 117 ls []) := by
  have htt : ∀ w ∈ tw_T, w.before _ s = true := fun w h => hts w (List.mem_cons_of_mem _ h)
  intro H locs ls hP hD hS hl
  rw [m_Model_whiled_b117] at hm
  refine lv_goto (tgt := 24) hx hb d_Model_whiled_117 (by decide) ?_
  exact Hrc_24 _ _ _ _ _ _ _ hm _ _ _ hP hD hS (lv_sub hl [0, 1, 2, 3] rfl)
def m_Model_whiled_b24 (n : Nat) (G : GB) : Nat → (Nat → Int32) → (Nat → Int64) → (Nat → Nat → Int32) → (Nat → Nat → Int64) → Int64 → Int64 → Int32 → Option ((Nat → Int32) × (Nat → Int64) × (Nat → Nat → Int32) × (Nat → Nat → Int64) × Int64)
  | 0, _, _, _, _, _, _, _ => none
  | f + 1, i, j, a, b, v1, v3, v5 => if v5 = ((0 : Int32)) then ob1 ((i 97) - 1 : Int32) (fun x_2 => ob1 (upd i 97 x_2 : Nat → Int32) (fun i_3 => some (i_3, j, a, b, 3))) else om (G.2.2.2.1 i j a b v1 (1 : Int32)) (fun i_5 j_6 a_7 b_8 r_9 => if ((i_5 102)) = ((0 : Int32)) then if ((lg_cmp r_9 3)) = ((0 : Int32)) then om (m_Model_fails n i_5 j_6 a_7 b_8 (4 : Int32)) (fun i_39 j_40 a_41 b_42 r_43 => some (i_39, j_40, a_41, b_42, r_43)) else ob0 (m_Model_isTruth n i_5 j_6 a_7 b_8 r_9) (fun r_13 => if r_13 = ((0 : Int32)) then om (m_Model_fails n i_5 j_6 a_7 b_8 (3 : Int32)) (fun i_33 j_34 a_35 b_36 r_37 => some (i_33, j_34, a_35, b_36, r_37)) else ob0 (m_Model_isTrue n i_5 j_6 a_7 b_8 r_9) (fun r_16 => if r_16 = ((0 : Int32)) then m_Model_whiled_b117 n G (m_Model_whiled_b24 n G f) i_5 j_6 a_7 b_8 v1 v3 r_16 else om (G.2.2.2.1 i_5 j_6 a_7 b_8 v3 (0 : Int32)) (fun i_19 j_20 a_21 b_22 r_23 => if ((i_19 102)) = ((0 : Int32)) then om (m_Model_begins n i_19 j_20 a_21 b_22) (fun i_26 j_27 a_28 b_29 r_30 => if r_30 = ((0 : Int32)) then some (i_26, j_27, a_28, b_29, 3) else m_Model_whiled_b117 n G (m_Model_whiled_b24 n G f) i_26 j_27 a_28 b_29 v1 v3 r_16) else some (i_19, j_20, a_21, b_22, 3)))) else some (i_5, j_6, a_7, b_8, 3))
set_option maxHeartbeats 4000000 in
set_option maxRecDepth 100000 in
theorem lb_Model_whiled_24 (d : Nat) (G : GB) (l : Launch) (dC : Nat → ClassId) (dI : Nat → Nat → Nat) (cI cJ cB : ClassId) (adK adV adA : Nat → Nat) (h : Nat) (v : Nat → Nat) (n : Nat) (HG : GH l dC dI cI cJ cB adK adV adA h v n G d) {p : Program} {e : Env} {s : State} {m : MethodId} {args : Array Value} {below : List Frame} {meth : Method} {c : Code} {A : Nat → Prop} (hx : p.tables.exec = Jvm.exec) (hb : c.code = b_Model_whiled) (hml : c.maxLocals = 8) (hown : s.vm.findClass R_Model = some m.cls) (hts : ∀ w ∈ w_Model_whiled, w.before args s = true) (hK : va_K (dC, dI) classes [(cI, .int), (cJ, .long), (cB, .byte)] s) (hE : tw_E adK adV adA A s s.heap) (hA : ∀ q : Nat, s.heap.size ≤ q → A q) (hr : meth.sig.returnType = (some .long)) (hlocks : meth.locks = false) {i2 : Nat → Int32} {j2 : Nat → Int64} {a2 : Nat → Nat → Int32} {b2 : Nat → Nat → Int64} {r2 : Int64} : ∀ (f : Nat) (i : Nat → Int32) (j : Nat → Int64) (a : Nat → Nat → Int32) (b : Nat → Nat → Int64) (v1 : Int64) (v3 : Int64) (v5 : Int32), m_Model_whiled_b24 n G f i j a b v1 v3 v5 = some (i2, j2, a2, b2, r2) → ∀ (H : Heap) (locs : List Loc) (ls : Array Slot), va_P (dC, dI) classes (MW cI cJ cB h v i j a b) H → va_D A (MW cI cJ cB h v i j a b) → va_S A s.heap H locs → lv_has ls 8 [(0, .ref h), (1, .long v1), (3, .long v3), (5, .int v5)] → W p l e (gR (d + 1)) s m args below meth c H locs 0 0 (MQ below (va_Ql (xR r2) (yB dC dI cI cJ cB h v i2 j2 a2 b2 A) A) args s 0 0 A) (F0 m 24 ls []) := by
  have htt : ∀ w ∈ tw_T, w.before _ s = true := fun w h => hts w (List.mem_cons_of_mem _ h)
  intro f
  induction f with
  | zero =>
    intro i j a b v1 v3 v5 hm
    rw [m_Model_whiled_b24] at hm
    cases hm
  | succ f ih =>
    intro i j a b v1 v3 v5 hm H locs ls hP hD hS hl
    rw [m_Model_whiled_b24] at hm
    refine lv_iload hx hb d_Model_whiled_24 (lv_at hl 3 rfl) ?_
    refine lv_if_eq (tgt := 120) hx hb d_Model_whiled_26 (by decide) (fun c_1 => ?_) (fun c_1 => ?_)
    · replace hm := if_t c_1 hm
      refine lv_aload_n hx hb d_Model_whiled_120 rfl (lv_at hl 0 rfl) ?_
      refine lv_dup hx hb d_Model_whiled_121 rfl ?_
      refine va_get (D := (dC, dI)) (ci := 12) (v := .int (i 97)) (C := R_Model) (T := F_Model) (N := 127) hx hb htt iw_Model hown hK hP 0 yo_12 rfl 97 (Nat.le_of_ble_eq_true rfl) (htt _ lk_Model_532) (fun _ h9 => h9) yg_97 d_Model_whiled_122 ?_
      refine lv_iconst (v := 1) hx hb d_Model_whiled_125 (by decide) ?_
      refine lv_isub hx hb d_Model_whiled_126 ?_
      refine lv_topi (fun x_2 ex_2 => ?_)
      replace hm := ob1_at ex_2 hm
      refine va_put (D := (dC, dI)) (ci := 12) (v := .int x_2) (ty := .int) (C := R_Model) (T := F_Model) (N := 127) hx hb htt iw_Model t_Model t_Model_ok n_Model hown hK hP hD hS 0 yo_12 rfl 97 (Nat.le_of_ble_eq_true rfl) (htt _ lk_Model_532) (fun _ h9 => h9) rfl (by decide +kernel) rfl rfl yl_97 d_Model_whiled_127 (fun H locs hP hD hS => ?_)
      obtain ⟨i_3, ei_3⟩ : ∃ y9 : Nat → Int32, y9 = upd i 97 x_2 := ⟨_, rfl⟩
      replace hm := ob1_at ei_3 hm
      obtain ⟨hP, hD⟩ := yw_97 ei_3 hP hD
      refine lv_ldc2 (v := 3) hx hb hown (htt _ lk_Model_7) d_Model_whiled_130 ?_
      obtain ⟨e1i, e1j, e1a, e1b, e3⟩ := re4m hm
      obtain ⟨hP, hD⟩ := y_eq e1i e1j e1a e1b hP hD
      exact W.lret hx hb hr (fun t9 ht hW => ⟨⟨_, (), rfl, e3.symm, by rw [ht]; exact hP, hD⟩, hS.F ht⟩) hS.2.2 d_Model_whiled_133
    · replace hm := if_f c_1 hm
      refine lv_aload_n hx hb d_Model_whiled_29 rfl (lv_at hl 0 rfl) ?_
      refine lv_lload_n hx hb d_Model_whiled_30 rfl (lv_at hl 1 rfl) ?_
      refine lv_iconst (v := 1) hx hb d_Model_whiled_31 (by decide) ?_
      obtain ⟨i_5, j_6, a_7, b_8, r_9, h_4, hm⟩ := om_some hm
      have hFc := x_free hD hS hA
      refine va_calll (va_runV (As := [.long v1, .int 1]) (rest := []) ⟨hx, hb, hml, hown, hts⟩ (HG.2.2.2.1 H.size _ _ _ _ _ _ _ _ _ _ _ h_4) (cwV 2 hts (tw_GV tw_cons cw_Model_runs lk_Model_642 in_Model_runs sel_Model_runs ini_Model) rfl rfl rfl ⟨rfl, hd_Model_runs⟩ (gR_up (by decide))) (ypV hK hP hD hS hE hFc yo_12 rfl) rfl rfl hl.1 rfl (lv_room (Nat.le_of_ble_eq_true rfl)) d_Model_whiled_32 ⟨Nat.le_of_ble_eq_true rfl, Nat.le_of_ble_eq_true rfl⟩) hS (fun q _ h => hFc q h) hFc (fun r9 u9 t9 H locs ht hvm e9 hB hz1 hk1 hS => ?_)
      have e9 : r_9 = r9 := e9
      subst e9
      obtain ⟨hP, hD⟩ := y_aft hB ht hFc
      clear hFc hk1 hz1 hvm hB ht
      refine lv_lstore (lv' := [(6, .long r_9), (0, .ref h), (1, .long v1), (3, .long v3), (5, .int v5)]) hx hb d_Model_whiled_35 hl (by decide) rfl (fun ls hl => ?_)
      refine lv_aload_n hx hb d_Model_whiled_37 rfl (lv_at hl 1 rfl) ?_
      refine va_get (D := (dC, dI)) (ci := 12) (v := .int (i_5 102)) (C := R_Model) (T := F_Model) (N := 127) hx hb htt iw_Model hown hK hP 0 yo_12 rfl 102 (Nat.le_of_ble_eq_true rfl) (htt _ lk_Model_559) (fun _ h9 => h9) yg_102 d_Model_whiled_38 ?_
      refine lv_if_eq (tgt := 48) hx hb d_Model_whiled_41 (by decide) (fun c_10 => ?_) (fun c_10 => ?_)
      · replace hm := if_t c_10 hm
        refine lv_lload hx hb d_Model_whiled_48 (lv_at hl 0 rfl) ?_
        refine lv_ldc2 (v := 3) hx hb hown (htt _ lk_Model_7) d_Model_whiled_50 ?_
        refine W.lcmp hx hb d_Model_whiled_53 ?_
        refine lv_if_ne (tgt := 63) hx hb d_Model_whiled_54 (by decide) (fun c_11 => ?_) (fun c_11 => ?_)
        · replace hm := if_f c_11 hm
          refine lv_aload_n hx hb d_Model_whiled_63 rfl (lv_at hl 1 rfl) ?_
          refine lv_lload hx hb d_Model_whiled_64 (lv_at hl 0 rfl) ?_
          obtain ⟨r_13, h_12, hm⟩ := ob0_some hm
          have hFc := x_free0 hS hA
          refine va_calli (va_runV (As := [.long r_9]) (rest := []) ⟨hx, hb, hml, hown, hts⟩ (x_Model_isTruth l dC dI cI cJ cB adK adV adA h v H.size n h_12) (cwV 1 hts (tw_GV tw_cons cw_Model_isTruth lk_Model_659 in_Model_isTruth sel_Model_isTruth ini_Model) rfl rfl rfl ⟨rfl, hd_Model_isTruth⟩ (gR_fit (d + 1) (Nat.le_of_ble_eq_true rfl) (Nat.le_of_ble_eq_true rfl))) (ypVr hK hP hS hE hFc yo_12 rfl) rfl rfl hl.1 rfl (lv_room (Nat.le_of_ble_eq_true rfl)) d_Model_whiled_66 ⟨Nat.le_of_ble_eq_true rfl, Nat.le_of_ble_eq_true rfl⟩) hS (fun q _ h => hFc q h) hFc (fun r9 u9 t9 H locs ht hvm e9 hB hz1 hk1 hS => ?_)
          have e9 : r_13 = r9 := e9
          subst e9
          replace hP := x_keep hP hk1
          clear hFc hk1 hz1 hvm hB ht
          refine lv_if_ne (tgt := 78) hx hb d_Model_whiled_69 (by decide) (fun c_14 => ?_) (fun c_14 => ?_)
          · replace hm := if_f c_14 hm
            refine lv_aload_n hx hb d_Model_whiled_78 rfl (lv_at hl 1 rfl) ?_
            refine lv_lload hx hb d_Model_whiled_79 (lv_at hl 0 rfl) ?_
            obtain ⟨r_16, h_15, hm⟩ := ob0_some hm
            have hFc := x_free0 hS hA
            refine va_calli (va_runV (As := [.long r_9]) (rest := []) ⟨hx, hb, hml, hown, hts⟩ (x_Model_isTrue l dC dI cI cJ cB adK adV adA h v H.size n h_15) (cwV 1 hts (tw_GV tw_cons cw_Model_isTrue lk_Model_662 in_Model_isTrue sel_Model_isTrue ini_Model) rfl rfl rfl ⟨rfl, hd_Model_isTrue⟩ (gR_fit (d + 1) (Nat.le_of_ble_eq_true rfl) (Nat.le_of_ble_eq_true rfl))) (ypVr hK hP hS hE hFc yo_12 rfl) rfl rfl hl.1 rfl (lv_room (Nat.le_of_ble_eq_true rfl)) d_Model_whiled_81 ⟨Nat.le_of_ble_eq_true rfl, Nat.le_of_ble_eq_true rfl⟩) hS (fun q _ h => hFc q h) hFc (fun r9 u9 t9 H locs ht hvm e9 hB hz1 hk1 hS => ?_)
            have e9 : r_16 = r9 := e9
            subst e9
            replace hP := x_keep hP hk1
            clear hFc hk1 hz1 hvm hB ht
            refine lv_istore (lv' := [(5, .int r_16), (6, .long r_9), (0, .ref h), (1, .long v1), (3, .long v3)]) hx hb d_Model_whiled_84 hl (by decide) rfl (fun ls hl => ?_)
            refine lv_iload hx hb d_Model_whiled_86 (lv_at hl 0 rfl) ?_
            refine lv_if_eq (tgt := 117) hx hb d_Model_whiled_88 (by decide) (fun c_17 => ?_) (fun c_17 => ?_)
            · replace hm := if_t c_17 hm
              exact lb_Model_whiled_117 d G l dC dI cI cJ cB adK adV adA h v n HG hx hb hml hown hts hK hE hA hr hlocks (m_Model_whiled_b24 n G f) ih _ _ _ _ _ _ _ hm _ _ _ hP hD hS (lv_sub hl [2, 3, 4, 0] rfl)
            · replace hm := if_f c_17 hm
              refine lv_aload_n hx hb d_Model_whiled_91 rfl (lv_at hl 2 rfl) ?_
              refine lv_lload_n hx hb d_Model_whiled_92 rfl (lv_at hl 4 rfl) ?_
              refine lv_iconst (v := 0) hx hb d_Model_whiled_93 (by decide) ?_
              obtain ⟨i_19, j_20, a_21, b_22, r_23, h_18, hm⟩ := om_some hm
              have hFc := x_free hD hS hA
              refine va_calll (va_runV (As := [.long v3, .int 0]) (rest := []) ⟨hx, hb, hml, hown, hts⟩ (HG.2.2.2.1 H.size _ _ _ _ _ _ _ _ _ _ _ h_18) (cwV 2 hts (tw_GV tw_cons cw_Model_runs lk_Model_642 in_Model_runs sel_Model_runs ini_Model) rfl rfl rfl ⟨rfl, hd_Model_runs⟩ (gR_up (by decide))) (ypV hK hP hD hS hE hFc yo_12 rfl) rfl rfl hl.1 rfl (lv_room (Nat.le_of_ble_eq_true rfl)) d_Model_whiled_94 ⟨Nat.le_of_ble_eq_true rfl, Nat.le_of_ble_eq_true rfl⟩) hS (fun q _ h => hFc q h) hFc (fun r9 u9 t9 H locs ht hvm e9 hB hz1 hk1 hS => ?_)
              have e9 : r_23 = r9 := e9
              subst e9
              obtain ⟨hP, hD⟩ := y_aft hB ht hFc
              clear hFc hk1 hz1 hvm hB ht
              refine lv_lstore (lv' := [(6, .long r_23), (5, .int r_16), (0, .ref h), (1, .long v1), (3, .long v3)]) hx hb d_Model_whiled_97 hl (by decide) rfl (fun ls hl => ?_)
              refine lv_aload_n hx hb d_Model_whiled_99 rfl (lv_at hl 2 rfl) ?_
              refine va_get (D := (dC, dI)) (ci := 12) (v := .int (i_19 102)) (C := R_Model) (T := F_Model) (N := 127) hx hb htt iw_Model hown hK hP 0 yo_12 rfl 102 (Nat.le_of_ble_eq_true rfl) (htt _ lk_Model_559) (fun _ h9 => h9) yg_102 d_Model_whiled_100 ?_
              refine lv_if_ne (tgt := 113) hx hb d_Model_whiled_103 (by decide) (fun c_24 => ?_) (fun c_24 => ?_)
              · replace hm := if_f c_24 hm
                refine lv_ldc2 (v := 3) hx hb hown (htt _ lk_Model_7) d_Model_whiled_113 ?_
                obtain ⟨e1i, e1j, e1a, e1b, e3⟩ := re4m hm
                obtain ⟨hP, hD⟩ := y_eq e1i e1j e1a e1b hP hD
                exact W.lret hx hb hr (fun t9 ht hW => ⟨⟨_, (), rfl, e3.symm, by rw [ht]; exact hP, hD⟩, hS.F ht⟩) hS.2.2 d_Model_whiled_116
              · replace hm := if_t c_24 hm
                refine lv_aload_n hx hb d_Model_whiled_106 rfl (lv_at hl 2 rfl) ?_
                obtain ⟨i_26, j_27, a_28, b_29, r_30, h_25, hm⟩ := om_some hm
                have hFc := x_free hD hS hA
                refine va_calli (va_runV (As := []) (rest := []) ⟨hx, hb, hml, hown, hts⟩ (x_Model_begins l dC dI cI cJ cB adK adV adA h v H.size n h_25) (cwV 0 hts (tw_GV tw_cons cw_Model_begins lk_Model_620 in_Model_begins sel_Model_begins ini_Model) rfl rfl rfl ⟨rfl, hd_Model_begins⟩ (gR_fit (d + 1) (Nat.le_of_ble_eq_true rfl) (Nat.le_of_ble_eq_true rfl))) (ypV hK hP hD hS hE hFc yo_12 rfl) rfl rfl hl.1 rfl (lv_room (Nat.le_of_ble_eq_true rfl)) d_Model_whiled_107 ⟨Nat.le_of_ble_eq_true rfl, Nat.le_of_ble_eq_true rfl⟩) hS (fun q _ h => hFc q h) hFc (fun r9 u9 t9 H locs ht hvm e9 hB hz1 hk1 hS => ?_)
                have e9 : r_30 = r9 := e9
                subst e9
                obtain ⟨hP, hD⟩ := y_aft hB ht hFc
                clear hFc hk1 hz1 hvm hB ht
                refine lv_if_ne (tgt := 117) hx hb d_Model_whiled_110 (by decide) (fun c_31 => ?_) (fun c_31 => ?_)
                · replace hm := if_f c_31 hm
                  exact lb_Model_whiled_117 d G l dC dI cI cJ cB adK adV adA h v n HG hx hb hml hown hts hK hE hA hr hlocks (m_Model_whiled_b24 n G f) ih _ _ _ _ _ _ _ hm _ _ _ hP hD hS (lv_sub hl [2, 3, 4, 1] rfl)
                · replace hm := if_t c_31 hm
                  refine lv_ldc2 (v := 3) hx hb hown (htt _ lk_Model_7) d_Model_whiled_113 ?_
                  obtain ⟨e1i, e1j, e1a, e1b, e3⟩ := re4m hm
                  obtain ⟨hP, hD⟩ := y_eq e1i e1j e1a e1b hP hD
                  exact W.lret hx hb hr (fun t9 ht hW => ⟨⟨_, (), rfl, e3.symm, by rw [ht]; exact hP, hD⟩, hS.F ht⟩) hS.2.2 d_Model_whiled_116
          · replace hm := if_t c_14 hm
            refine lv_aload_n hx hb d_Model_whiled_72 rfl (lv_at hl 1 rfl) ?_
            refine lv_iconst (v := 3) hx hb d_Model_whiled_73 (by decide) ?_
            obtain ⟨i_33, j_34, a_35, b_36, r_37, h_32, hm⟩ := om_some hm
            have hFc := x_free hD hS hA
            refine va_calll (va_runV (As := [.int 3]) (rest := []) ⟨hx, hb, hml, hown, hts⟩ (x_Model_fails l dC dI cI cJ cB adK adV adA h v H.size n h_32) (cwV 1 hts (tw_GV tw_cons cw_Model_fails lk_Model_596 in_Model_fails sel_Model_fails ini_Model) rfl rfl rfl ⟨rfl, hd_Model_fails⟩ (gR_fit (d + 1) (Nat.le_of_ble_eq_true rfl) (Nat.le_of_ble_eq_true rfl))) (ypV hK hP hD hS hE hFc yo_12 rfl) rfl rfl hl.1 rfl (lv_room (Nat.le_of_ble_eq_true rfl)) d_Model_whiled_74 ⟨Nat.le_of_ble_eq_true rfl, Nat.le_of_ble_eq_true rfl⟩) hS (fun q _ h => hFc q h) hFc (fun r9 u9 t9 H locs ht hvm e9 hB hz1 hk1 hS => ?_)
            have e9 : r_37 = r9 := e9
            subst e9
            obtain ⟨hP, hD⟩ := y_aft hB ht hFc
            clear hFc hk1 hz1 hvm hB ht
            obtain ⟨e1i, e1j, e1a, e1b, e3⟩ := re4m hm
            obtain ⟨hP, hD⟩ := y_eq e1i e1j e1a e1b hP hD
            exact W.lret hx hb hr (fun t9 ht hW => ⟨⟨_, (), rfl, e3.symm, by rw [ht]; exact hP, hD⟩, hS.F ht⟩) hS.2.2 d_Model_whiled_77
        · replace hm := if_t c_11 hm
          refine lv_aload_n hx hb d_Model_whiled_57 rfl (lv_at hl 1 rfl) ?_
          refine lv_iconst (v := 4) hx hb d_Model_whiled_58 (by decide) ?_
          obtain ⟨i_39, j_40, a_41, b_42, r_43, h_38, hm⟩ := om_some hm
          have hFc := x_free hD hS hA
          refine va_calll (va_runV (As := [.int 4]) (rest := []) ⟨hx, hb, hml, hown, hts⟩ (x_Model_fails l dC dI cI cJ cB adK adV adA h v H.size n h_38) (cwV 1 hts (tw_GV tw_cons cw_Model_fails lk_Model_596 in_Model_fails sel_Model_fails ini_Model) rfl rfl rfl ⟨rfl, hd_Model_fails⟩ (gR_fit (d + 1) (Nat.le_of_ble_eq_true rfl) (Nat.le_of_ble_eq_true rfl))) (ypV hK hP hD hS hE hFc yo_12 rfl) rfl rfl hl.1 rfl (lv_room (Nat.le_of_ble_eq_true rfl)) d_Model_whiled_59 ⟨Nat.le_of_ble_eq_true rfl, Nat.le_of_ble_eq_true rfl⟩) hS (fun q _ h => hFc q h) hFc (fun r9 u9 t9 H locs ht hvm e9 hB hz1 hk1 hS => ?_)
          have e9 : r_43 = r9 := e9
          subst e9
          obtain ⟨hP, hD⟩ := y_aft hB ht hFc
          clear hFc hk1 hz1 hvm hB ht
          obtain ⟨e1i, e1j, e1a, e1b, e3⟩ := re4m hm
          obtain ⟨hP, hD⟩ := y_eq e1i e1j e1a e1b hP hD
          exact W.lret hx hb hr (fun t9 ht hW => ⟨⟨_, (), rfl, e3.symm, by rw [ht]; exact hP, hD⟩, hS.F ht⟩) hS.2.2 d_Model_whiled_62
      · replace hm := if_f c_10 hm
        refine lv_ldc2 (v := 3) hx hb hown (htt _ lk_Model_7) d_Model_whiled_44 ?_
        obtain ⟨e1i, e1j, e1a, e1b, e3⟩ := re4m hm
        obtain ⟨hP, hD⟩ := y_eq e1i e1j e1a e1b hP hD
        exact W.lret hx hb hr (fun t9 ht hW => ⟨⟨_, (), rfl, e3.symm, by rw [ht]; exact hP, hD⟩, hS.F ht⟩) hS.2.2 d_Model_whiled_47
def m_Model_whiled (n : Nat) (G : GB) (i : Nat → Int32) (j : Nat → Int64) (a : Nat → Nat → Int32) (b : Nat → Nat → Int64) (v1 : Int64) (v3 : Int64) : Option ((Nat → Int32) × (Nat → Int64) × (Nat → Nat → Int32) × (Nat → Nat → Int64) × Int64) := om (m_Model_hasLevel n i j a b) (fun i_2 j_3 a_4 b_5 r_6 => if r_6 = ((0 : Int32)) then some (i_2, j_3, a_4, b_5, 3) else ob1 ((i_2 97) + 1 : Int32) (fun x_8 => ob1 (upd i_2 97 x_8 : Nat → Int32) (fun i_9 => m_Model_whiled_b24 n G n i_9 j_3 a_4 b_5 v1 v3 (1 : Int32))))
set_option maxHeartbeats 4000000 in
set_option maxRecDepth 100000 in
theorem x_Model_whiled (d : Nat) (G : GB) (l : Launch) (dC : Nat → ClassId) (dI : Nat → Nat → Nat) (cI cJ cB : ClassId) (adK adV adA : Nat → Nat) (h : Nat) (v : Nat → Nat) (sz : Nat) (n : Nat) (HG : GH l dC dI cI cJ cB adK adV adA h v n G d) {i : Nat → Int32} {j : Nat → Int64} {a : Nat → Nat → Int32} {b : Nat → Nat → Int64} {v1 : Int64} {v3 : Int64} {i2 : Nat → Int32} {j2 : Nat → Int64} {a2 : Nat → Nat → Int32} {b2 : Nat → Nat → Int64} {r2 : Int64} (hm : m_Model_whiled n G i j a b v1 v3 = some (i2, j2, a2, b2, r2)) : Met l y_Model_whiled w_Model_whiled (gR (d + 1)) (va_Pc [.ref h, .long v1, .long v3] (yE dC dI cI cJ cB adK adV adA h v i j a b sz)) (va_Ql (xR r2) (yB dC dI cI cJ cB h v i2 j2 a2 b2 (va_A (MW cI cJ cB h v i j a b) sz)) (va_A (MW cI cJ cB h v i j a b) sz)) 0 0 ((va_A (MW cI cJ cB h v i j a b) sz)) := by
  refine Met.ofW (cc := b_Model_whiled) (maxL := 8) (ret := (some .long)) (by decide) rfl ?_
  intro p e s m args below meth c s₁ B hml hv
  obtain ⟨rfl, hsz, hP, hK, hE, hD0⟩ := hv
  have hx := B.exec
  have hb := B.bytes
  have hr := B.returns
  have hts := atoms_spec (ws := w_Model_whiled) B.pre
  have htt : ∀ w ∈ tw_T, w.before _ s = true := fun w h => hts w (List.mem_cons_of_mem _ h)
  have hown : s.vm.findClass R_Model = some m.cls := findClass_of_methodNamed B.named
  have hlocks := B.notSynchronized
  subst hsz
  have hD := hD0.self (sz := s.heap.size)
  generalize hAe : (va_A (MW cI cJ cB h v i j a b) s.heap.size) = A at hD hE ⊢
  have hA : ∀ q : Nat, s.heap.size ≤ q → A q := fun q h => by rw [← hAe]; exact Or.inr h
  have hS : va_S A s.heap s.heap [] := va_S.rf
  have hl := lv_entry ([.ref h, .long v1, .long v3]) (n := 8) (Nat.le_of_ble_eq_true rfl)
  rw [lg_entry_eq]
  generalize (lg_sl ([.ref h, .long v1, .long v3]) ++ List.replicate (8 - (lg_sl ([.ref h, .long v1, .long v3])).length) Slot.unset).toArray = ls at hl ⊢
  have hl : lv_has ls 8 [(0, .ref h), (1, .long v1), (3, .long v3)] := hl
  rw [m_Model_whiled] at hm
  refine lv_aload_n hx hb d_Model_whiled_0 rfl (lv_at hl 0 rfl) ?_
  obtain ⟨i_2, j_3, a_4, b_5, r_6, h_1, hm⟩ := om_some hm
  have hFc := x_free hD hS hA
  refine va_calli (va_runV (As := []) (rest := []) ⟨hx, hb, hml, hown, hts⟩ (x_Model_hasLevel l dC dI cI cJ cB adK adV adA h v s.heap.size n h_1) (cwV 0 hts (tw_GV tw_cons cw_Model_hasLevel lk_Model_646 in_Model_hasLevel sel_Model_hasLevel ini_Model) rfl rfl rfl ⟨rfl, hd_Model_hasLevel⟩ (gR_fit (d + 1) (Nat.le_of_ble_eq_true rfl) (Nat.le_of_ble_eq_true rfl))) (ypV hK hP hD hS hE hFc yo_12 rfl) rfl rfl hl.1 rfl (lv_room (Nat.le_of_ble_eq_true rfl)) d_Model_whiled_1 ⟨Nat.le_of_ble_eq_true rfl, Nat.le_of_ble_eq_true rfl⟩) hS (fun q _ h => hFc q h) hFc (fun r9 u9 t9 H locs ht hvm e9 hB hz1 hk1 hS => ?_)
  have e9 : r_6 = r9 := e9
  subst e9
  obtain ⟨hP, hD⟩ := y_aft hB ht hFc
  clear hFc hk1 hz1 hvm hB ht
  refine lv_if_ne (tgt := 11) hx hb d_Model_whiled_4 (by decide) (fun c_7 => ?_) (fun c_7 => ?_)
  · replace hm := if_f c_7 hm
    refine lv_iconst (v := 1) hx hb d_Model_whiled_11 (by decide) ?_
    refine lv_istore (lv' := [(5, .int 1), (0, .ref h), (1, .long v1), (3, .long v3)]) hx hb d_Model_whiled_12 hl (by decide) rfl (fun ls hl => ?_)
    refine lv_aload_n hx hb d_Model_whiled_14 rfl (lv_at hl 1 rfl) ?_
    refine lv_dup hx hb d_Model_whiled_15 rfl ?_
    refine va_get (D := (dC, dI)) (ci := 12) (v := .int (i_2 97)) (C := R_Model) (T := F_Model) (N := 127) hx hb htt iw_Model hown hK hP 0 yo_12 rfl 97 (Nat.le_of_ble_eq_true rfl) (htt _ lk_Model_532) (fun _ h9 => h9) yg_97 d_Model_whiled_16 ?_
    refine lv_iconst (v := 1) hx hb d_Model_whiled_19 (by decide) ?_
    refine lv_iadd hx hb d_Model_whiled_20 ?_
    refine lv_topi (fun x_8 ex_8 => ?_)
    replace hm := ob1_at ex_8 hm
    refine va_put (D := (dC, dI)) (ci := 12) (v := .int x_8) (ty := .int) (C := R_Model) (T := F_Model) (N := 127) hx hb htt iw_Model t_Model t_Model_ok n_Model hown hK hP hD hS 0 yo_12 rfl 97 (Nat.le_of_ble_eq_true rfl) (htt _ lk_Model_532) (fun _ h9 => h9) rfl (by decide +kernel) rfl rfl yl_97 d_Model_whiled_21 (fun H locs hP hD hS => ?_)
    obtain ⟨i_9, ei_9⟩ : ∃ y9 : Nat → Int32, y9 = upd i_2 97 x_8 := ⟨_, rfl⟩
    replace hm := ob1_at ei_9 hm
    obtain ⟨hP, hD⟩ := yw_97 ei_9 hP hD
    exact lb_Model_whiled_24 d G l dC dI cI cJ cB adK adV adA h v n HG hx hb hml hown hts hK hE hA hr hlocks n _ _ _ _ _ _ _ hm _ _ _ hP hD hS (lv_sub hl [1, 2, 3, 0] rfl)
  · replace hm := if_t c_7 hm
    refine lv_ldc2 (v := 3) hx hb hown (htt _ lk_Model_7) d_Model_whiled_7 ?_
    obtain ⟨e1i, e1j, e1a, e1b, e3⟩ := re4m hm
    obtain ⟨hP, hD⟩ := y_eq e1i e1j e1a e1b hP hD
    exact W.lret hx hb hr (fun t9 ht hW => ⟨⟨_, (), rfl, e3.symm, by rw [ht]; exact hP, hD⟩, hS.F ht⟩) hS.2.2 d_Model_whiled_10

def m_Model_forEach_b287 (n : Nat) (G : GB) : Nat → (Nat → Int32) → (Nat → Int64) → (Nat → Nat → Int32) → (Nat → Nat → Int64) → Int32 → Int32 → Option ((Nat → Int32) × (Nat → Int64) × (Nat → Nat → Int32) × (Nat → Nat → Int64) × Int64)
  | 0, _, _, _, _, _, _ => none
  | f + 1, i, j, a, b, v7, v10 => if ((i 107)) ≤ v10 then om (m_Model_newList n i j a b ((i 107) - v7)) (fun i_3 j_4 a_5 b_6 r_7 => ob1 (upd i_3 107 v7 : Nat → Int32) (fun i_8 => some (i_8, j_4, a_5, b_6, r_7))) else ck v10 36000 (om (m_Model_put n i j a b (b 111 v10.toNatClampNeg)) (fun i_11 j_12 a_13 b_14 r_15 => ob1 (v10 + 1 : Int32) (fun x_16 => m_Model_forEach_b287 n G f i_11 j_12 a_13 b_14 v7 x_16)))
set_option maxHeartbeats 4000000 in
set_option maxRecDepth 100000 in
theorem lb_Model_forEach_287 (d : Nat) (G : GB) (l : Launch) (dC : Nat → ClassId) (dI : Nat → Nat → Nat) (cI cJ cB : ClassId) (adK adV adA : Nat → Nat) (h : Nat) (v : Nat → Nat) (n : Nat) (HG : GH l dC dI cI cJ cB adK adV adA h v n G d) {p : Program} {e : Env} {s : State} {m : MethodId} {args : Array Value} {below : List Frame} {meth : Method} {c : Code} {A : Nat → Prop} (hx : p.tables.exec = Jvm.exec) (hb : c.code = b_Model_forEach) (hml : c.maxLocals = 13) (hown : s.vm.findClass R_Model = some m.cls) (hts : ∀ w ∈ w_Model_forEach, w.before args s = true) (hK : va_K (dC, dI) classes [(cI, .int), (cJ, .long), (cB, .byte)] s) (hE : tw_E adK adV adA A s s.heap) (hA : ∀ q : Nat, s.heap.size ≤ q → A q) (hr : meth.sig.returnType = (some .long)) (hlocks : meth.locks = false) {i2 : Nat → Int32} {j2 : Nat → Int64} {a2 : Nat → Nat → Int32} {b2 : Nat → Nat → Int64} {r2 : Int64} : ∀ (f : Nat) (i : Nat → Int32) (j : Nat → Int64) (a : Nat → Nat → Int32) (b : Nat → Nat → Int64) (v7 : Int32) (v10 : Int32), m_Model_forEach_b287 n G f i j a b v7 v10 = some (i2, j2, a2, b2, r2) → ∀ (H : Heap) (locs : List Loc) (ls : Array Slot), va_P (dC, dI) classes (MW cI cJ cB h v i j a b) H → va_D A (MW cI cJ cB h v i j a b) → va_S A s.heap H locs → lv_has ls 13 [(0, .ref h), (7, .int v7), (10, .int v10)] → W p l e (gR (d + 1)) s m args below meth c H locs 0 0 (MQ below (va_Ql (xR r2) (yB dC dI cI cJ cB h v i2 j2 a2 b2 A) A) args s 0 0 A) (F0 m 287 ls []) := by
  have htt : ∀ w ∈ tw_T, w.before _ s = true := fun w h => hts w (List.mem_cons_of_mem _ h)
  intro f
  induction f with
  | zero =>
    intro i j a b v7 v10 hm
    rw [m_Model_forEach_b287] at hm
    cases hm
  | succ f ih =>
    intro i j a b v7 v10 hm H locs ls hP hD hS hl
    rw [m_Model_forEach_b287] at hm
    refine lv_iload hx hb d_Model_forEach_287 (lv_at hl 2 rfl) ?_
    refine lv_aload_n hx hb d_Model_forEach_289 rfl (lv_at hl 0 rfl) ?_
    refine va_get (D := (dC, dI)) (ci := 12) (v := .int (i 107)) (C := R_Model) (T := F_Model) (N := 127) hx hb htt iw_Model hown hK hP 0 yo_12 rfl 107 (Nat.le_of_ble_eq_true rfl) (htt _ lk_Model_562) (fun _ h9 => h9) yg_107 d_Model_forEach_290 ?_
    refine lv_icmp_ge (tgt := 313) hx hb d_Model_forEach_293 (by decide) (fun c_1 => ?_) (fun c_1 => ?_)
    · replace hm := if_t c_1 hm
      refine lv_aload_n hx hb d_Model_forEach_313 rfl (lv_at hl 0 rfl) ?_
      refine lv_aload_n hx hb d_Model_forEach_314 rfl (lv_at hl 0 rfl) ?_
      refine va_get (D := (dC, dI)) (ci := 12) (v := .int (i 107)) (C := R_Model) (T := F_Model) (N := 127) hx hb htt iw_Model hown hK hP 0 yo_12 rfl 107 (Nat.le_of_ble_eq_true rfl) (htt _ lk_Model_562) (fun _ h9 => h9) yg_107 d_Model_forEach_315 ?_
      refine lv_iload hx hb d_Model_forEach_318 (lv_at hl 1 rfl) ?_
      refine lv_isub hx hb d_Model_forEach_320 ?_
      obtain ⟨i_3, j_4, a_5, b_6, r_7, h_2, hm⟩ := om_some hm
      have hFc := x_free hD hS hA
      refine va_calll (va_runV (As := [.int ((i 107) - v7)]) (rest := []) ⟨hx, hb, hml, hown, hts⟩ (x_Model_newList l dC dI cI cJ cB adK adV adA h v H.size n h_2) (cwV 1 hts (tw_GV tw_cons cw_Model_newList lk_Model_468 in_Model_newList sel_Model_newList ini_Model) rfl rfl rfl ⟨rfl, hd_Model_newList⟩ (gR_fit (d + 1) (Nat.le_of_ble_eq_true rfl) (Nat.le_of_ble_eq_true rfl))) (ypV hK hP hD hS hE hFc yo_12 rfl) rfl rfl hl.1 rfl (lv_room (Nat.le_of_ble_eq_true rfl)) d_Model_forEach_321 ⟨Nat.le_of_ble_eq_true rfl, Nat.le_of_ble_eq_true rfl⟩) hS (fun q _ h => hFc q h) hFc (fun r9 u9 t9 H locs ht hvm e9 hB hz1 hk1 hS => ?_)
      have e9 : r_7 = r9 := e9
      subst e9
      obtain ⟨hP, hD⟩ := y_aft hB ht hFc
      clear hFc hk1 hz1 hvm hB ht
      refine lv_lstore (lv' := [(10, .long r_7), (0, .ref h), (7, .int v7)]) hx hb d_Model_forEach_324 hl (by decide) rfl (fun ls hl => ?_)
      refine lv_aload_n hx hb d_Model_forEach_326 rfl (lv_at hl 1 rfl) ?_
      refine lv_iload hx hb d_Model_forEach_327 (lv_at hl 2 rfl) ?_
      refine va_put (D := (dC, dI)) (ci := 12) (v := .int v7) (ty := .int) (C := R_Model) (T := F_Model) (N := 127) hx hb htt iw_Model t_Model t_Model_ok n_Model hown hK hP hD hS 0 yo_12 rfl 107 (Nat.le_of_ble_eq_true rfl) (htt _ lk_Model_562) (fun _ h9 => h9) rfl (by decide +kernel) rfl rfl yl_107 d_Model_forEach_329 (fun H locs hP hD hS => ?_)
      obtain ⟨i_8, ei_8⟩ : ∃ y9 : Nat → Int32, y9 = upd i_3 107 v7 := ⟨_, rfl⟩
      replace hm := ob1_at ei_8 hm
      obtain ⟨hP, hD⟩ := yw_107 ei_8 hP hD
      refine lv_lload hx hb d_Model_forEach_332 (lv_at hl 0 rfl) ?_
      obtain ⟨e1i, e1j, e1a, e1b, e3⟩ := re4m hm
      obtain ⟨hP, hD⟩ := y_eq e1i e1j e1a e1b hP hD
      exact W.lret hx hb hr (fun t9 ht hW => ⟨⟨_, (), rfl, e3.symm, by rw [ht]; exact hP, hD⟩, hS.F ht⟩) hS.2.2 d_Model_forEach_334
    · replace hm := if_f c_1 hm
      refine lv_aload_n hx hb d_Model_forEach_296 rfl (lv_at hl 0 rfl) ?_
      refine lv_aload_n hx hb d_Model_forEach_297 rfl (lv_at hl 0 rfl) ?_
      refine va_get (D := (dC, dI)) (ci := 12) (v := .ref ((v 111))) (C := R_Model) (T := F_Model) (N := 127) hx hb htt iw_Model hown hK hP 0 yo_12 rfl 111 (Nat.le_of_ble_eq_true rfl) (htt _ lk_Model_301) (fun _ h9 => h9) yg_111 d_Model_forEach_298 ?_
      refine lv_iload hx hb d_Model_forEach_301 (lv_at hl 2 rfl) ?_
      obtain ⟨h_9, hm⟩ := ck_some hm
      refine va_lald hx hb hK hP 61 1 ya_111 rfl h_9 d_Model_forEach_303 ?_
      obtain ⟨i_11, j_12, a_13, b_14, r_15, h_10, hm⟩ := om_some hm
      have hFc := x_free hD hS hA
      refine va_callv (va_runV (As := [.long (b 111 v10.toNatClampNeg)]) (rest := []) ⟨hx, hb, hml, hown, hts⟩ (x_Model_put l dC dI cI cJ cB adK adV adA h v H.size n h_10) (cwV 1 hts (tw_GV tw_cons cw_Model_put lk_Model_465 in_Model_put sel_Model_put ini_Model) rfl rfl rfl ⟨rfl, hd_Model_put⟩ (gR_fit (d + 1) (Nat.le_of_ble_eq_true rfl) (Nat.le_of_ble_eq_true rfl))) (ypV hK hP hD hS hE hFc yo_12 rfl) rfl rfl hl.1 rfl (lv_room (Nat.le_of_ble_eq_true rfl)) d_Model_forEach_304 ⟨Nat.le_of_ble_eq_true rfl, Nat.le_of_ble_eq_true rfl⟩) hS (fun q _ h => hFc q h) hFc (fun u9 t9 H locs ht hvm e9 hB hz1 hk1 hS => ?_)
      obtain ⟨hP, hD⟩ := y_aft hB ht hFc
      clear hFc hk1 hz1 hvm hB ht
      obtain ⟨x_16, ex_16⟩ : ∃ y9 : Int32, y9 = v10 + 1 := ⟨_, rfl⟩
      replace hm := ob1_at ex_16 hm
      refine lv_iinc (v := x_16) (lv' := [(10, .int x_16), (0, .ref h), (7, .int v7)]) hx hb d_Model_forEach_307 hl (k := 2) rfl (by rw [ex_16]; rfl) (by decide) rfl (fun ls hl => ?_)
      refine lv_goto (tgt := 287) hx hb d_Model_forEach_310 (by decide) ?_
      exact ih _ _ _ _ _ _ hm _ _ _ hP hD hS (lv_sub hl [1, 2, 0] rfl)
def m_Model_forEach_b252 (n : Nat) (G : GB) (rc_113 : (Nat → Int32) → (Nat → Int64) → (Nat → Nat → Int32) → (Nat → Nat → Int64) → Int64 → Int64 → Int32 → Int32 → Int32 → Int32 → Int32 → Int32 → Option ((Nat → Int32) × (Nat → Int64) × (Nat → Nat → Int32) × (Nat → Nat → Int64) × Int64)) (i : Nat → Int32) (j : Nat → Int64) (a : Nat → Nat → Int32) (b : Nat → Nat → Int64) (v1 : Int64) (v3 : Int64) (v5 : Int32) (v6 : Int32) (v7 : Int32) (v8 : Int32) (v9 : Int32) (v10 : Int32) : Option ((Nat → Int32) × (Nat → Int64) × (Nat → Nat → Int32) × (Nat → Nat → Int64) × Int64) := ob1 (v10 + 1 : Int32) (fun x_1 => rc_113 i j a b v1 v3 v5 v6 v7 v8 v9 x_1)
set_option maxHeartbeats 4000000 in
set_option maxRecDepth 100000 in
theorem lb_Model_forEach_252 (d : Nat) (G : GB) (l : Launch) (dC : Nat → ClassId) (dI : Nat → Nat → Nat) (cI cJ cB : ClassId) (adK adV adA : Nat → Nat) (h : Nat) (v : Nat → Nat) (n : Nat) (HG : GH l dC dI cI cJ cB adK adV adA h v n G d) {p : Program} {e : Env} {s : State} {m : MethodId} {args : Array Value} {below : List Frame} {meth : Method} {c : Code} {A : Nat → Prop} (hx : p.tables.exec = Jvm.exec) (hb : c.code = b_Model_forEach) (hml : c.maxLocals = 13) (hown : s.vm.findClass R_Model = some m.cls) (hts : ∀ w ∈ w_Model_forEach, w.before args s = true) (hK : va_K (dC, dI) classes [(cI, .int), (cJ, .long), (cB, .byte)] s) (hE : tw_E adK adV adA A s s.heap) (hA : ∀ q : Nat, s.heap.size ≤ q → A q) (hr : meth.sig.returnType = (some .long)) (hlocks : meth.locks = false) {i2 : Nat → Int32} {j2 : Nat → Int64} {a2 : Nat → Nat → Int32} {b2 : Nat → Nat → Int64} {r2 : Int64} (rc_113 : (Nat → Int32) → (Nat → Int64) → (Nat → Nat → Int32) → (Nat → Nat → Int64) → Int64 → Int64 → Int32 → Int32 → Int32 → Int32 → Int32 → Int32 → Option ((Nat → Int32) × (Nat → Int64) × (Nat → Nat → Int32) × (Nat → Nat → Int64) × Int64)) (Hrc_113 : ∀ (i : Nat → Int32) (j : Nat → Int64) (a : Nat → Nat → Int32) (b : Nat → Nat → Int64) (v1 : Int64) (v3 : Int64) (v5 : Int32) (v6 : Int32) (v7 : Int32) (v8 : Int32) (v9 : Int32) (v10 : Int32), rc_113 i j a b v1 v3 v5 v6 v7 v8 v9 v10 = some (i2, j2, a2, b2, r2) → ∀ (H : Heap) (locs : List Loc) (ls : Array Slot), va_P (dC, dI) classes (MW cI cJ cB h v i j a b) H → va_D A (MW cI cJ cB h v i j a b) → va_S A s.heap H locs → lv_has ls 13 [(0, .ref h), (1, .long v1), (3, .long v3), (5, .int v5), (6, .int v6), (7, .int v7), (8, .int v8), (9, .int v9), (10, .int v10)] → W p l e (gR (d + 1)) s m args below meth c H locs 0 0 (MQ below (va_Ql (xR r2) (yB dC dI cI cJ cB h v i2 j2 a2 b2 A) A) args s 0 0 A) (F0 m 113 ls [])) (i : Nat → Int32) (j : Nat → Int64) (a : Nat → Nat → Int32) (b : Nat → Nat → Int64) (v1 : Int64) (v3 : Int64) (v5 : Int32) (v6 : Int32) (v7 : Int32) (v8 : Int32) (v9 : Int32) (v10 : Int32) (hm : m_Model_forEach_b252 n G rc_113 i j a b v1 v3 v5 v6 v7 v8 v9 v10 = some (i2, j2, a2, b2, r2)) : ∀ (H : Heap) (locs : List Loc) (ls : Array Slot), va_P (dC, dI) classes (MW cI cJ cB h v i j a b) H → va_D A (MW cI cJ cB h v i j a b) → va_S A s.heap H locs → lv_has ls 13 [(0, .ref h), (1, .long v1), (3, .long v3), (5, .int v5), (6, .int v6), (7, .int v7), (8, .int v8), (9, .int v9), (10, .int v10)] → W p l e (gR (d + 1)) s m args below meth c H locs 0 0 (MQ below (va_Ql (xR r2) (yB dC dI cI cJ cB h v i2 j2 a2 b2 A) A) args s 0 0 A) (F0 m 252 ls []) := by
  have htt : ∀ w ∈ tw_T, w.before _ s = true := fun w h => hts w (List.mem_cons_of_mem _ h)
  intro H locs ls hP hD hS hl
  rw [m_Model_forEach_b252] at hm
  obtain ⟨x_1, ex_1⟩ : ∃ y9 : Int32, y9 = v10 + 1 := ⟨_, rfl⟩
  replace hm := ob1_at ex_1 hm
  refine lv_iinc (v := x_1) (lv' := [(10, .int x_1), (0, .ref h), (1, .long v1), (3, .long v3), (5, .int v5), (6, .int v6), (7, .int v7), (8, .int v8), (9, .int v9)]) hx hb d_Model_forEach_252 hl (k := 8) rfl (by rw [ex_1]; rfl) (by decide) rfl (fun ls hl => ?_)
  refine lv_goto (tgt := 113) hx hb d_Model_forEach_255 (by decide) ?_
  exact Hrc_113 _ _ _ _ _ _ _ _ _ _ _ _ hm _ _ _ hP hD hS (lv_sub hl [1, 2, 3, 4, 5, 6, 7, 8, 0] rfl)
def m_Model_forEach_b136 (n : Nat) (G : GB) (rc_113 : (Nat → Int32) → (Nat → Int64) → (Nat → Nat → Int32) → (Nat → Nat → Int64) → Int64 → Int64 → Int32 → Int32 → Int32 → Int32 → Int32 → Int32 → Option ((Nat → Int32) × (Nat → Int64) × (Nat → Nat → Int32) × (Nat → Nat → Int64) × Int64)) (i : Nat → Int32) (j : Nat → Int64) (a : Nat → Nat → Int32) (b : Nat → Nat → Int64) (v1 : Int64) (v3 : Int64) (v5 : Int32) (v6 : Int32) (v7 : Int32) (v8 : Int32) (v9 : Int32) (v10 : Int32) : Option ((Nat → Int32) × (Nat → Int64) × (Nat → Nat → Int32) × (Nat → Nat → Int64) × Int64) := ob0 (m_Model_member n i j a b v1 v10) (fun r_2 => ck v9 151 (ob1 (svl b 122 v9.toNatClampNeg r_2 : Nat → Nat → Int64) (fun b_4 => om (G.2.2.2.1 i j a b_4 v3 v5) (fun i_6 j_7 a_8 b_9 r_10 => if ((i_6 102)) = ((0 : Int32)) then if v5 = ((0 : Int32)) then m_Model_forEach_b252 n G rc_113 i_6 j_7 a_8 b_9 v1 v3 v5 v6 v7 v8 v9 v10 else if ((lg_cmp r_10 3)) = ((0 : Int32)) then om (m_Model_fails n i_6 j_7 a_8 b_9 (4 : Int32)) (fun i_36 j_37 a_38 b_39 r_40 => some (i_36, j_37, a_38, b_39, r_40)) else ob0 (m_Model_sizeOf n i_6 j_7 a_8 b_9 r_10) (fun r_15 => ob1 (v8 + r_15 : Int32) (fun x_16 => if x_16 ≤ ((600 : Int32)) then om (m_Model_makes n i_6 j_7 a_8 b_9 (1 : Int32)) (fun i_19 j_20 a_21 b_22 r_23 => if r_23 = ((0 : Int32)) then some (i_19, j_20, a_21, b_22, 3) else ck ((i_19 107)) 36000 (ob1 (svl b_22 111 (i_19 107).toNatClampNeg r_10 : Nat → Nat → Int64) (fun b_26 => ob1 ((i_19 107) + 1 : Int32) (fun x_27 => ob1 (upd i_19 107 x_27 : Nat → Int32) (fun i_28 => m_Model_forEach_b252 n G rc_113 i_28 j_20 a_21 b_26 v1 v3 v5 v6 v7 x_16 v9 v10))))) else om (m_Model_fails n i_6 j_7 a_8 b_9 (8 : Int32)) (fun i_30 j_31 a_32 b_33 r_34 => some (i_30, j_31, a_32, b_33, r_34)))) else some (i_6, j_7, a_8, b_9, 3)))))
set_option maxHeartbeats 4000000 in
set_option maxRecDepth 100000 in
theorem lb_Model_forEach_136 (d : Nat) (G : GB) (l : Launch) (dC : Nat → ClassId) (dI : Nat → Nat → Nat) (cI cJ cB : ClassId) (adK adV adA : Nat → Nat) (h : Nat) (v : Nat → Nat) (n : Nat) (HG : GH l dC dI cI cJ cB adK adV adA h v n G d) {p : Program} {e : Env} {s : State} {m : MethodId} {args : Array Value} {below : List Frame} {meth : Method} {c : Code} {A : Nat → Prop} (hx : p.tables.exec = Jvm.exec) (hb : c.code = b_Model_forEach) (hml : c.maxLocals = 13) (hown : s.vm.findClass R_Model = some m.cls) (hts : ∀ w ∈ w_Model_forEach, w.before args s = true) (hK : va_K (dC, dI) classes [(cI, .int), (cJ, .long), (cB, .byte)] s) (hE : tw_E adK adV adA A s s.heap) (hA : ∀ q : Nat, s.heap.size ≤ q → A q) (hr : meth.sig.returnType = (some .long)) (hlocks : meth.locks = false) {i2 : Nat → Int32} {j2 : Nat → Int64} {a2 : Nat → Nat → Int32} {b2 : Nat → Nat → Int64} {r2 : Int64} (rc_113 : (Nat → Int32) → (Nat → Int64) → (Nat → Nat → Int32) → (Nat → Nat → Int64) → Int64 → Int64 → Int32 → Int32 → Int32 → Int32 → Int32 → Int32 → Option ((Nat → Int32) × (Nat → Int64) × (Nat → Nat → Int32) × (Nat → Nat → Int64) × Int64)) (Hrc_113 : ∀ (i : Nat → Int32) (j : Nat → Int64) (a : Nat → Nat → Int32) (b : Nat → Nat → Int64) (v1 : Int64) (v3 : Int64) (v5 : Int32) (v6 : Int32) (v7 : Int32) (v8 : Int32) (v9 : Int32) (v10 : Int32), rc_113 i j a b v1 v3 v5 v6 v7 v8 v9 v10 = some (i2, j2, a2, b2, r2) → ∀ (H : Heap) (locs : List Loc) (ls : Array Slot), va_P (dC, dI) classes (MW cI cJ cB h v i j a b) H → va_D A (MW cI cJ cB h v i j a b) → va_S A s.heap H locs → lv_has ls 13 [(0, .ref h), (1, .long v1), (3, .long v3), (5, .int v5), (6, .int v6), (7, .int v7), (8, .int v8), (9, .int v9), (10, .int v10)] → W p l e (gR (d + 1)) s m args below meth c H locs 0 0 (MQ below (va_Ql (xR r2) (yB dC dI cI cJ cB h v i2 j2 a2 b2 A) A) args s 0 0 A) (F0 m 113 ls [])) (i : Nat → Int32) (j : Nat → Int64) (a : Nat → Nat → Int32) (b : Nat → Nat → Int64) (v1 : Int64) (v3 : Int64) (v5 : Int32) (v6 : Int32) (v7 : Int32) (v8 : Int32) (v9 : Int32) (v10 : Int32) (hm : m_Model_forEach_b136 n G rc_113 i j a b v1 v3 v5 v6 v7 v8 v9 v10 = some (i2, j2, a2, b2, r2)) : ∀ (H : Heap) (locs : List Loc) (ls : Array Slot), va_P (dC, dI) classes (MW cI cJ cB h v i j a b) H → va_D A (MW cI cJ cB h v i j a b) → va_S A s.heap H locs → lv_has ls 13 [(0, .ref h), (1, .long v1), (3, .long v3), (5, .int v5), (6, .int v6), (7, .int v7), (8, .int v8), (9, .int v9), (10, .int v10)] → W p l e (gR (d + 1)) s m args below meth c H locs 0 0 (MQ below (va_Ql (xR r2) (yB dC dI cI cJ cB h v i2 j2 a2 b2 A) A) args s 0 0 A) (F0 m 136 ls []) := by
  have htt : ∀ w ∈ tw_T, w.before _ s = true := fun w h => hts w (List.mem_cons_of_mem _ h)
  intro H locs ls hP hD hS hl
  rw [m_Model_forEach_b136] at hm
  refine lv_aload_n hx hb d_Model_forEach_136 rfl (lv_at hl 0 rfl) ?_
  refine va_get (D := (dC, dI)) (ci := 12) (v := .ref ((v 122))) (C := R_Model) (T := F_Model) (N := 127) hx hb htt iw_Model hown hK hP 0 yo_12 rfl 122 (Nat.le_of_ble_eq_true rfl) (htt _ lk_Model_325) (fun _ h9 => h9) yg_122 d_Model_forEach_137 ?_
  refine lv_iload hx hb d_Model_forEach_140 (lv_at hl 7 rfl) ?_
  refine lv_aload_n hx hb d_Model_forEach_142 rfl (lv_at hl 0 rfl) ?_
  refine lv_lload_n hx hb d_Model_forEach_143 rfl (lv_at hl 1 rfl) ?_
  refine lv_iload hx hb d_Model_forEach_144 (lv_at hl 8 rfl) ?_
  obtain ⟨r_2, h_1, hm⟩ := ob0_some hm
  have hFc := x_free0 hS hA
  refine va_calll (va_runV (As := [.long v1, .int v10]) (rest := [.int v9, .ref ((v 122))]) ⟨hx, hb, hml, hown, hts⟩ (x_Model_member l dC dI cI cJ cB adK adV adA h v H.size n h_1) (cwV 2 hts (tw_GV tw_cons cw_Model_member lk_Model_101 in_Model_member sel_Model_member ini_Model) rfl rfl rfl ⟨rfl, hd_Model_member⟩ (gR_fit (d + 1) (Nat.le_of_ble_eq_true rfl) (Nat.le_of_ble_eq_true rfl))) (ypVr hK hP hS hE hFc yo_12 rfl) rfl rfl hl.1 rfl (lv_room (Nat.le_of_ble_eq_true rfl)) d_Model_forEach_146 ⟨Nat.le_of_ble_eq_true rfl, Nat.le_of_ble_eq_true rfl⟩) hS (fun q _ h => hFc q h) hFc (fun r9 u9 t9 H locs ht hvm e9 hB hz1 hk1 hS => ?_)
  have e9 : r_2 = r9 := e9
  subst e9
  replace hP := x_keep hP hk1
  clear hFc hk1 hz1 hvm hB ht
  obtain ⟨h_3, hm⟩ := ck_some hm
  refine va_last hx hb hK hP hD hS 69 1 ya_122 rfl h_3 d_Model_forEach_149 (fun H locs hP hD hS => ?_)
  obtain ⟨b_4, eb_4⟩ : ∃ y9 : Nat → Nat → Int64, y9 = svl b 122 v9.toNatClampNeg r_2 := ⟨_, rfl⟩
  replace hm := ob1_at eb_4 hm
  obtain ⟨hP, hD⟩ := yv_122 eb_4 hP hD
  refine lv_aload_n hx hb d_Model_forEach_150 rfl (lv_at hl 0 rfl) ?_
  refine lv_lload_n hx hb d_Model_forEach_151 rfl (lv_at hl 2 rfl) ?_
  refine lv_iload hx hb d_Model_forEach_152 (lv_at hl 3 rfl) ?_
  obtain ⟨i_6, j_7, a_8, b_9, r_10, h_5, hm⟩ := om_some hm
  have hFc := x_free hD hS hA
  refine va_calll (va_runV (As := [.long v3, .int v5]) (rest := []) ⟨hx, hb, hml, hown, hts⟩ (HG.2.2.2.1 H.size _ _ _ _ _ _ _ _ _ _ _ h_5) (cwV 2 hts (tw_GV tw_cons cw_Model_runs lk_Model_642 in_Model_runs sel_Model_runs ini_Model) rfl rfl rfl ⟨rfl, hd_Model_runs⟩ (gR_up (by decide))) (ypV hK hP hD hS hE hFc yo_12 rfl) rfl rfl hl.1 rfl (lv_room (Nat.le_of_ble_eq_true rfl)) d_Model_forEach_154 ⟨Nat.le_of_ble_eq_true rfl, Nat.le_of_ble_eq_true rfl⟩) hS (fun q _ h => hFc q h) hFc (fun r9 u9 t9 H locs ht hvm e9 hB hz1 hk1 hS => ?_)
  have e9 : r_10 = r9 := e9
  subst e9
  obtain ⟨hP, hD⟩ := y_aft hB ht hFc
  clear hFc hk1 hz1 hvm hB ht
  refine lv_lstore (lv' := [(11, .long r_10), (0, .ref h), (1, .long v1), (3, .long v3), (5, .int v5), (6, .int v6), (7, .int v7), (8, .int v8), (9, .int v9), (10, .int v10)]) hx hb d_Model_forEach_157 hl (by decide) rfl (fun ls hl => ?_)
  refine lv_aload_n hx hb d_Model_forEach_159 rfl (lv_at hl 1 rfl) ?_
  refine va_get (D := (dC, dI)) (ci := 12) (v := .int (i_6 102)) (C := R_Model) (T := F_Model) (N := 127) hx hb htt iw_Model hown hK hP 0 yo_12 rfl 102 (Nat.le_of_ble_eq_true rfl) (htt _ lk_Model_559) (fun _ h9 => h9) yg_102 d_Model_forEach_160 ?_
  refine lv_if_eq (tgt := 170) hx hb d_Model_forEach_163 (by decide) (fun c_11 => ?_) (fun c_11 => ?_)
  · replace hm := if_t c_11 hm
    refine lv_iload hx hb d_Model_forEach_170 (lv_at hl 4 rfl) ?_
    refine lv_if_ne (tgt := 178) hx hb d_Model_forEach_172 (by decide) (fun c_12 => ?_) (fun c_12 => ?_)
    · replace hm := if_f c_12 hm
      refine lv_lload hx hb d_Model_forEach_178 (lv_at hl 0 rfl) ?_
      refine lv_ldc2 (v := 3) hx hb hown (htt _ lk_Model_7) d_Model_forEach_180 ?_
      refine W.lcmp hx hb d_Model_forEach_183 ?_
      refine lv_if_ne (tgt := 193) hx hb d_Model_forEach_184 (by decide) (fun c_13 => ?_) (fun c_13 => ?_)
      · replace hm := if_f c_13 hm
        refine lv_iload hx hb d_Model_forEach_193 (lv_at hl 7 rfl) ?_
        refine lv_aload_n hx hb d_Model_forEach_195 rfl (lv_at hl 1 rfl) ?_
        refine lv_lload hx hb d_Model_forEach_196 (lv_at hl 0 rfl) ?_
        obtain ⟨r_15, h_14, hm⟩ := ob0_some hm
        have hFc := x_free0 hS hA
        refine va_calli (va_runV (As := [.long r_10]) (rest := [.int v8]) ⟨hx, hb, hml, hown, hts⟩ (x_Model_sizeOf l dC dI cI cJ cB adK adV adA h v H.size n h_14) (cwV 1 hts (tw_GV tw_cons cw_Model_sizeOf lk_Model_38 in_Model_sizeOf sel_Model_sizeOf ini_Model) rfl rfl rfl ⟨rfl, hd_Model_sizeOf⟩ (gR_fit (d + 1) (Nat.le_of_ble_eq_true rfl) (Nat.le_of_ble_eq_true rfl))) (ypVr hK hP hS hE hFc yo_12 rfl) rfl rfl hl.1 rfl (lv_room (Nat.le_of_ble_eq_true rfl)) d_Model_forEach_198 ⟨Nat.le_of_ble_eq_true rfl, Nat.le_of_ble_eq_true rfl⟩) hS (fun q _ h => hFc q h) hFc (fun r9 u9 t9 H locs ht hvm e9 hB hz1 hk1 hS => ?_)
        have e9 : r_15 = r9 := e9
        subst e9
        replace hP := x_keep hP hk1
        clear hFc hk1 hz1 hvm hB ht
        refine lv_iadd hx hb d_Model_forEach_201 ?_
        refine lv_topi (fun x_16 ex_16 => ?_)
        replace hm := ob1_at ex_16 hm
        refine lv_istore (lv' := [(8, .int x_16), (11, .long r_10), (0, .ref h), (1, .long v1), (3, .long v3), (5, .int v5), (6, .int v6), (7, .int v7), (9, .int v9), (10, .int v10)]) hx hb d_Model_forEach_202 hl (by decide) rfl (fun ls hl => ?_)
        refine lv_iload hx hb d_Model_forEach_204 (lv_at hl 0 rfl) ?_
        refine lv_sipush (v := 600) hx hb d_Model_forEach_206 (by decide) ?_
        refine lv_icmp_le (tgt := 219) hx hb d_Model_forEach_209 (by decide) (fun c_17 => ?_) (fun c_17 => ?_)
        · replace hm := if_t c_17 hm
          refine lv_aload_n hx hb d_Model_forEach_219 rfl (lv_at hl 2 rfl) ?_
          refine lv_iconst (v := 1) hx hb d_Model_forEach_220 (by decide) ?_
          obtain ⟨i_19, j_20, a_21, b_22, r_23, h_18, hm⟩ := om_some hm
          have hFc := x_free hD hS hA
          refine va_calli (va_runV (As := [.int 1]) (rest := []) ⟨hx, hb, hml, hown, hts⟩ (x_Model_makes l dC dI cI cJ cB adK adV adA h v H.size n h_18) (cwV 1 hts (tw_GV tw_cons cw_Model_makes lk_Model_665 in_Model_makes sel_Model_makes ini_Model) rfl rfl rfl ⟨rfl, hd_Model_makes⟩ (gR_fit (d + 1) (Nat.le_of_ble_eq_true rfl) (Nat.le_of_ble_eq_true rfl))) (ypV hK hP hD hS hE hFc yo_12 rfl) rfl rfl hl.1 rfl (lv_room (Nat.le_of_ble_eq_true rfl)) d_Model_forEach_221 ⟨Nat.le_of_ble_eq_true rfl, Nat.le_of_ble_eq_true rfl⟩) hS (fun q _ h => hFc q h) hFc (fun r9 u9 t9 H locs ht hvm e9 hB hz1 hk1 hS => ?_)
          have e9 : r_23 = r9 := e9
          subst e9
          obtain ⟨hP, hD⟩ := y_aft hB ht hFc
          clear hFc hk1 hz1 hvm hB ht
          refine lv_if_ne (tgt := 231) hx hb d_Model_forEach_224 (by decide) (fun c_24 => ?_) (fun c_24 => ?_)
          · replace hm := if_f c_24 hm
            refine lv_aload_n hx hb d_Model_forEach_231 rfl (lv_at hl 2 rfl) ?_
            refine va_get (D := (dC, dI)) (ci := 12) (v := .ref ((v 111))) (C := R_Model) (T := F_Model) (N := 127) hx hb htt iw_Model hown hK hP 0 yo_12 rfl 111 (Nat.le_of_ble_eq_true rfl) (htt _ lk_Model_301) (fun _ h9 => h9) yg_111 d_Model_forEach_232 ?_
            refine lv_aload_n hx hb d_Model_forEach_235 rfl (lv_at hl 2 rfl) ?_
            refine va_get (D := (dC, dI)) (ci := 12) (v := .int (i_19 107)) (C := R_Model) (T := F_Model) (N := 127) hx hb htt iw_Model hown hK hP 0 yo_12 rfl 107 (Nat.le_of_ble_eq_true rfl) (htt _ lk_Model_562) (fun _ h9 => h9) yg_107 d_Model_forEach_236 ?_
            refine lv_lload hx hb d_Model_forEach_239 (lv_at hl 1 rfl) ?_
            obtain ⟨h_25, hm⟩ := ck_some hm
            refine va_last hx hb hK hP hD hS 61 1 ya_111 rfl h_25 d_Model_forEach_241 (fun H locs hP hD hS => ?_)
            obtain ⟨b_26, eb_26⟩ : ∃ y9 : Nat → Nat → Int64, y9 = svl b_22 111 (i_19 107).toNatClampNeg r_10 := ⟨_, rfl⟩
            replace hm := ob1_at eb_26 hm
            obtain ⟨hP, hD⟩ := yv_111 eb_26 hP hD
            refine lv_aload_n hx hb d_Model_forEach_242 rfl (lv_at hl 2 rfl) ?_
            refine lv_dup hx hb d_Model_forEach_243 rfl ?_
            refine va_get (D := (dC, dI)) (ci := 12) (v := .int (i_19 107)) (C := R_Model) (T := F_Model) (N := 127) hx hb htt iw_Model hown hK hP 0 yo_12 rfl 107 (Nat.le_of_ble_eq_true rfl) (htt _ lk_Model_562) (fun _ h9 => h9) yg_107 d_Model_forEach_244 ?_
            refine lv_iconst (v := 1) hx hb d_Model_forEach_247 (by decide) ?_
            refine lv_iadd hx hb d_Model_forEach_248 ?_
            refine lv_topi (fun x_27 ex_27 => ?_)
            replace hm := ob1_at ex_27 hm
            refine va_put (D := (dC, dI)) (ci := 12) (v := .int x_27) (ty := .int) (C := R_Model) (T := F_Model) (N := 127) hx hb htt iw_Model t_Model t_Model_ok n_Model hown hK hP hD hS 0 yo_12 rfl 107 (Nat.le_of_ble_eq_true rfl) (htt _ lk_Model_562) (fun _ h9 => h9) rfl (by decide +kernel) rfl rfl yl_107 d_Model_forEach_249 (fun H locs hP hD hS => ?_)
            obtain ⟨i_28, ei_28⟩ : ∃ y9 : Nat → Int32, y9 = upd i_19 107 x_27 := ⟨_, rfl⟩
            replace hm := ob1_at ei_28 hm
            obtain ⟨hP, hD⟩ := yw_107 ei_28 hP hD
            exact lb_Model_forEach_252 d G l dC dI cI cJ cB adK adV adA h v n HG hx hb hml hown hts hK hE hA hr hlocks rc_113 Hrc_113 _ _ _ _ _ _ _ _ _ _ _ _ hm _ _ _ hP hD hS (lv_sub hl [2, 3, 4, 5, 6, 7, 0, 8, 9] rfl)
          · replace hm := if_t c_24 hm
            refine lv_ldc2 (v := 3) hx hb hown (htt _ lk_Model_7) d_Model_forEach_227 ?_
            obtain ⟨e1i, e1j, e1a, e1b, e3⟩ := re4m hm
            obtain ⟨hP, hD⟩ := y_eq e1i e1j e1a e1b hP hD
            exact W.lret hx hb hr (fun t9 ht hW => ⟨⟨_, (), rfl, e3.symm, by rw [ht]; exact hP, hD⟩, hS.F ht⟩) hS.2.2 d_Model_forEach_230
        · replace hm := if_f c_17 hm
          refine lv_aload_n hx hb d_Model_forEach_212 rfl (lv_at hl 2 rfl) ?_
          refine lv_bipush (v := 8) hx hb d_Model_forEach_213 (by decide) ?_
          obtain ⟨i_30, j_31, a_32, b_33, r_34, h_29, hm⟩ := om_some hm
          have hFc := x_free hD hS hA
          refine va_calll (va_runV (As := [.int 8]) (rest := []) ⟨hx, hb, hml, hown, hts⟩ (x_Model_fails l dC dI cI cJ cB adK adV adA h v H.size n h_29) (cwV 1 hts (tw_GV tw_cons cw_Model_fails lk_Model_596 in_Model_fails sel_Model_fails ini_Model) rfl rfl rfl ⟨rfl, hd_Model_fails⟩ (gR_fit (d + 1) (Nat.le_of_ble_eq_true rfl) (Nat.le_of_ble_eq_true rfl))) (ypV hK hP hD hS hE hFc yo_12 rfl) rfl rfl hl.1 rfl (lv_room (Nat.le_of_ble_eq_true rfl)) d_Model_forEach_215 ⟨Nat.le_of_ble_eq_true rfl, Nat.le_of_ble_eq_true rfl⟩) hS (fun q _ h => hFc q h) hFc (fun r9 u9 t9 H locs ht hvm e9 hB hz1 hk1 hS => ?_)
          have e9 : r_34 = r9 := e9
          subst e9
          obtain ⟨hP, hD⟩ := y_aft hB ht hFc
          clear hFc hk1 hz1 hvm hB ht
          obtain ⟨e1i, e1j, e1a, e1b, e3⟩ := re4m hm
          obtain ⟨hP, hD⟩ := y_eq e1i e1j e1a e1b hP hD
          exact W.lret hx hb hr (fun t9 ht hW => ⟨⟨_, (), rfl, e3.symm, by rw [ht]; exact hP, hD⟩, hS.F ht⟩) hS.2.2 d_Model_forEach_218
      · replace hm := if_t c_13 hm
        refine lv_aload_n hx hb d_Model_forEach_187 rfl (lv_at hl 1 rfl) ?_
        refine lv_iconst (v := 4) hx hb d_Model_forEach_188 (by decide) ?_
        obtain ⟨i_36, j_37, a_38, b_39, r_40, h_35, hm⟩ := om_some hm
        have hFc := x_free hD hS hA
        refine va_calll (va_runV (As := [.int 4]) (rest := []) ⟨hx, hb, hml, hown, hts⟩ (x_Model_fails l dC dI cI cJ cB adK adV adA h v H.size n h_35) (cwV 1 hts (tw_GV tw_cons cw_Model_fails lk_Model_596 in_Model_fails sel_Model_fails ini_Model) rfl rfl rfl ⟨rfl, hd_Model_fails⟩ (gR_fit (d + 1) (Nat.le_of_ble_eq_true rfl) (Nat.le_of_ble_eq_true rfl))) (ypV hK hP hD hS hE hFc yo_12 rfl) rfl rfl hl.1 rfl (lv_room (Nat.le_of_ble_eq_true rfl)) d_Model_forEach_189 ⟨Nat.le_of_ble_eq_true rfl, Nat.le_of_ble_eq_true rfl⟩) hS (fun q _ h => hFc q h) hFc (fun r9 u9 t9 H locs ht hvm e9 hB hz1 hk1 hS => ?_)
        have e9 : r_40 = r9 := e9
        subst e9
        obtain ⟨hP, hD⟩ := y_aft hB ht hFc
        clear hFc hk1 hz1 hvm hB ht
        obtain ⟨e1i, e1j, e1a, e1b, e3⟩ := re4m hm
        obtain ⟨hP, hD⟩ := y_eq e1i e1j e1a e1b hP hD
        exact W.lret hx hb hr (fun t9 ht hW => ⟨⟨_, (), rfl, e3.symm, by rw [ht]; exact hP, hD⟩, hS.F ht⟩) hS.2.2 d_Model_forEach_192
    · replace hm := if_t c_12 hm
      refine lv_goto (tgt := 252) hx hb d_Model_forEach_175 (by decide) ?_
      exact lb_Model_forEach_252 d G l dC dI cI cJ cB adK adV adA h v n HG hx hb hml hown hts hK hE hA hr hlocks rc_113 Hrc_113 _ _ _ _ _ _ _ _ _ _ _ _ hm _ _ _ hP hD hS (lv_sub hl [1, 2, 3, 4, 5, 6, 7, 8, 9] rfl)
  · replace hm := if_f c_11 hm
    refine lv_ldc2 (v := 3) hx hb hown (htt _ lk_Model_7) d_Model_forEach_166 ?_
    obtain ⟨e1i, e1j, e1a, e1b, e3⟩ := re4m hm
    obtain ⟨hP, hD⟩ := y_eq e1i e1j e1a e1b hP hD
    exact W.lret hx hb hr (fun t9 ht hW => ⟨⟨_, (), rfl, e3.symm, by rw [ht]; exact hP, hD⟩, hS.F ht⟩) hS.2.2 d_Model_forEach_169
def m_Model_forEach_b113 (n : Nat) (G : GB) : Nat → (Nat → Int32) → (Nat → Int64) → (Nat → Nat → Int32) → (Nat → Nat → Int64) → Int64 → Int64 → Int32 → Int32 → Int32 → Int32 → Int32 → Int32 → Option ((Nat → Int32) × (Nat → Int64) × (Nat → Nat → Int32) × (Nat → Nat → Int64) × Int64)
  | 0, _, _, _, _, _, _, _, _, _, _, _, _ => none
  | f + 1, i, j, a, b, v1, v3, v5, v6, v7, v8, v9, v10 => if v6 ≤ v10 then ob1 (upd i 117 v9 : Nat → Int32) (fun i_2 => ob1 ((i_2 97) - 1 : Int32) (fun x_3 => ob1 (upd i_2 97 x_3 : Nat → Int32) (fun i_4 => if v5 = ((0 : Int32)) then some (i_4, j, a, b, 3) else m_Model_forEach_b287 n G n i_4 j a b v7 v7))) else if v10 ≤ ((0 : Int32)) then m_Model_forEach_b136 n G (m_Model_forEach_b113 n G f) i j a b v1 v3 v5 v6 v7 v8 v9 v10 else om (m_Model_begins n i j a b) (fun i_8 j_9 a_10 b_11 r_12 => if r_12 = ((0 : Int32)) then some (i_8, j_9, a_10, b_11, 3) else m_Model_forEach_b136 n G (m_Model_forEach_b113 n G f) i_8 j_9 a_10 b_11 v1 v3 v5 v6 v7 v8 v9 v10)
set_option maxHeartbeats 4000000 in
set_option maxRecDepth 100000 in
theorem lb_Model_forEach_113 (d : Nat) (G : GB) (l : Launch) (dC : Nat → ClassId) (dI : Nat → Nat → Nat) (cI cJ cB : ClassId) (adK adV adA : Nat → Nat) (h : Nat) (v : Nat → Nat) (n : Nat) (HG : GH l dC dI cI cJ cB adK adV adA h v n G d) {p : Program} {e : Env} {s : State} {m : MethodId} {args : Array Value} {below : List Frame} {meth : Method} {c : Code} {A : Nat → Prop} (hx : p.tables.exec = Jvm.exec) (hb : c.code = b_Model_forEach) (hml : c.maxLocals = 13) (hown : s.vm.findClass R_Model = some m.cls) (hts : ∀ w ∈ w_Model_forEach, w.before args s = true) (hK : va_K (dC, dI) classes [(cI, .int), (cJ, .long), (cB, .byte)] s) (hE : tw_E adK adV adA A s s.heap) (hA : ∀ q : Nat, s.heap.size ≤ q → A q) (hr : meth.sig.returnType = (some .long)) (hlocks : meth.locks = false) {i2 : Nat → Int32} {j2 : Nat → Int64} {a2 : Nat → Nat → Int32} {b2 : Nat → Nat → Int64} {r2 : Int64} : ∀ (f : Nat) (i : Nat → Int32) (j : Nat → Int64) (a : Nat → Nat → Int32) (b : Nat → Nat → Int64) (v1 : Int64) (v3 : Int64) (v5 : Int32) (v6 : Int32) (v7 : Int32) (v8 : Int32) (v9 : Int32) (v10 : Int32), m_Model_forEach_b113 n G f i j a b v1 v3 v5 v6 v7 v8 v9 v10 = some (i2, j2, a2, b2, r2) → ∀ (H : Heap) (locs : List Loc) (ls : Array Slot), va_P (dC, dI) classes (MW cI cJ cB h v i j a b) H → va_D A (MW cI cJ cB h v i j a b) → va_S A s.heap H locs → lv_has ls 13 [(0, .ref h), (1, .long v1), (3, .long v3), (5, .int v5), (6, .int v6), (7, .int v7), (8, .int v8), (9, .int v9), (10, .int v10)] → W p l e (gR (d + 1)) s m args below meth c H locs 0 0 (MQ below (va_Ql (xR r2) (yB dC dI cI cJ cB h v i2 j2 a2 b2 A) A) args s 0 0 A) (F0 m 113 ls []) := by
  have htt : ∀ w ∈ tw_T, w.before _ s = true := fun w h => hts w (List.mem_cons_of_mem _ h)
  intro f
  induction f with
  | zero =>
    intro i j a b v1 v3 v5 v6 v7 v8 v9 v10 hm
    rw [m_Model_forEach_b113] at hm
    cases hm
  | succ f ih =>
    intro i j a b v1 v3 v5 v6 v7 v8 v9 v10 hm H locs ls hP hD hS hl
    rw [m_Model_forEach_b113] at hm
    refine lv_iload hx hb d_Model_forEach_113 (lv_at hl 8 rfl) ?_
    refine lv_iload hx hb d_Model_forEach_115 (lv_at hl 4 rfl) ?_
    refine lv_icmp_ge (tgt := 258) hx hb d_Model_forEach_117 (by decide) (fun c_1 => ?_) (fun c_1 => ?_)
    · replace hm := if_t c_1 hm
      refine lv_aload_n hx hb d_Model_forEach_258 rfl (lv_at hl 0 rfl) ?_
      refine lv_iload hx hb d_Model_forEach_259 (lv_at hl 7 rfl) ?_
      refine va_put (D := (dC, dI)) (ci := 12) (v := .int v9) (ty := .int) (C := R_Model) (T := F_Model) (N := 127) hx hb htt iw_Model t_Model t_Model_ok n_Model hown hK hP hD hS 0 yo_12 rfl 117 (Nat.le_of_ble_eq_true rfl) (htt _ lk_Model_568) (fun _ h9 => h9) rfl (by decide +kernel) rfl rfl yl_117 d_Model_forEach_261 (fun H locs hP hD hS => ?_)
      obtain ⟨i_2, ei_2⟩ : ∃ y9 : Nat → Int32, y9 = upd i 117 v9 := ⟨_, rfl⟩
      replace hm := ob1_at ei_2 hm
      obtain ⟨hP, hD⟩ := yw_117 ei_2 hP hD
      refine lv_aload_n hx hb d_Model_forEach_264 rfl (lv_at hl 0 rfl) ?_
      refine lv_dup hx hb d_Model_forEach_265 rfl ?_
      refine va_get (D := (dC, dI)) (ci := 12) (v := .int (i_2 97)) (C := R_Model) (T := F_Model) (N := 127) hx hb htt iw_Model hown hK hP 0 yo_12 rfl 97 (Nat.le_of_ble_eq_true rfl) (htt _ lk_Model_532) (fun _ h9 => h9) yg_97 d_Model_forEach_266 ?_
      refine lv_iconst (v := 1) hx hb d_Model_forEach_269 (by decide) ?_
      refine lv_isub hx hb d_Model_forEach_270 ?_
      refine lv_topi (fun x_3 ex_3 => ?_)
      replace hm := ob1_at ex_3 hm
      refine va_put (D := (dC, dI)) (ci := 12) (v := .int x_3) (ty := .int) (C := R_Model) (T := F_Model) (N := 127) hx hb htt iw_Model t_Model t_Model_ok n_Model hown hK hP hD hS 0 yo_12 rfl 97 (Nat.le_of_ble_eq_true rfl) (htt _ lk_Model_532) (fun _ h9 => h9) rfl (by decide +kernel) rfl rfl yl_97 d_Model_forEach_271 (fun H locs hP hD hS => ?_)
      obtain ⟨i_4, ei_4⟩ : ∃ y9 : Nat → Int32, y9 = upd i_2 97 x_3 := ⟨_, rfl⟩
      replace hm := ob1_at ei_4 hm
      obtain ⟨hP, hD⟩ := yw_97 ei_4 hP hD
      refine lv_iload hx hb d_Model_forEach_274 (lv_at hl 3 rfl) ?_
      refine lv_if_ne (tgt := 283) hx hb d_Model_forEach_276 (by decide) (fun c_5 => ?_) (fun c_5 => ?_)
      · replace hm := if_f c_5 hm
        refine lv_iload hx hb d_Model_forEach_283 (lv_at hl 5 rfl) ?_
        refine lv_istore (lv' := [(10, .int v7), (0, .ref h), (1, .long v1), (3, .long v3), (5, .int v5), (6, .int v6), (7, .int v7), (8, .int v8), (9, .int v9)]) hx hb d_Model_forEach_285 hl (by decide) rfl (fun ls hl => ?_)
        exact lb_Model_forEach_287 d G l dC dI cI cJ cB adK adV adA h v n HG hx hb hml hown hts hK hE hA hr hlocks n _ _ _ _ _ _ hm _ _ _ hP hD hS (lv_sub hl [1, 6, 0] rfl)
      · replace hm := if_t c_5 hm
        refine lv_ldc2 (v := 3) hx hb hown (htt _ lk_Model_7) d_Model_forEach_279 ?_
        obtain ⟨e1i, e1j, e1a, e1b, e3⟩ := re4m hm
        obtain ⟨hP, hD⟩ := y_eq e1i e1j e1a e1b hP hD
        exact W.lret hx hb hr (fun t9 ht hW => ⟨⟨_, (), rfl, e3.symm, by rw [ht]; exact hP, hD⟩, hS.F ht⟩) hS.2.2 d_Model_forEach_282
    · replace hm := if_f c_1 hm
      refine lv_iload hx hb d_Model_forEach_120 (lv_at hl 8 rfl) ?_
      refine lv_if_le (tgt := 136) hx hb d_Model_forEach_122 (by decide) (fun c_6 => ?_) (fun c_6 => ?_)
      · replace hm := if_t c_6 hm
        exact lb_Model_forEach_136 d G l dC dI cI cJ cB adK adV adA h v n HG hx hb hml hown hts hK hE hA hr hlocks (m_Model_forEach_b113 n G f) ih _ _ _ _ _ _ _ _ _ _ _ _ hm _ _ _ hP hD hS (lv_sub hl [0, 1, 2, 3, 4, 5, 6, 7, 8] rfl)
      · replace hm := if_f c_6 hm
        refine lv_aload_n hx hb d_Model_forEach_125 rfl (lv_at hl 0 rfl) ?_
        obtain ⟨i_8, j_9, a_10, b_11, r_12, h_7, hm⟩ := om_some hm
        have hFc := x_free hD hS hA
        refine va_calli (va_runV (As := []) (rest := []) ⟨hx, hb, hml, hown, hts⟩ (x_Model_begins l dC dI cI cJ cB adK adV adA h v H.size n h_7) (cwV 0 hts (tw_GV tw_cons cw_Model_begins lk_Model_620 in_Model_begins sel_Model_begins ini_Model) rfl rfl rfl ⟨rfl, hd_Model_begins⟩ (gR_fit (d + 1) (Nat.le_of_ble_eq_true rfl) (Nat.le_of_ble_eq_true rfl))) (ypV hK hP hD hS hE hFc yo_12 rfl) rfl rfl hl.1 rfl (lv_room (Nat.le_of_ble_eq_true rfl)) d_Model_forEach_126 ⟨Nat.le_of_ble_eq_true rfl, Nat.le_of_ble_eq_true rfl⟩) hS (fun q _ h => hFc q h) hFc (fun r9 u9 t9 H locs ht hvm e9 hB hz1 hk1 hS => ?_)
        have e9 : r_12 = r9 := e9
        subst e9
        obtain ⟨hP, hD⟩ := y_aft hB ht hFc
        clear hFc hk1 hz1 hvm hB ht
        refine lv_if_ne (tgt := 136) hx hb d_Model_forEach_129 (by decide) (fun c_13 => ?_) (fun c_13 => ?_)
        · replace hm := if_f c_13 hm
          exact lb_Model_forEach_136 d G l dC dI cI cJ cB adK adV adA h v n HG hx hb hml hown hts hK hE hA hr hlocks (m_Model_forEach_b113 n G f) ih _ _ _ _ _ _ _ _ _ _ _ _ hm _ _ _ hP hD hS (lv_sub hl [0, 1, 2, 3, 4, 5, 6, 7, 8] rfl)
        · replace hm := if_t c_13 hm
          refine lv_ldc2 (v := 3) hx hb hown (htt _ lk_Model_7) d_Model_forEach_132 ?_
          obtain ⟨e1i, e1j, e1a, e1b, e3⟩ := re4m hm
          obtain ⟨hP, hD⟩ := y_eq e1i e1j e1a e1b hP hD
          exact W.lret hx hb hr (fun t9 ht hW => ⟨⟨_, (), rfl, e3.symm, by rw [ht]; exact hP, hD⟩, hS.F ht⟩) hS.2.2 d_Model_forEach_135
def m_Model_forEach_b60 (n : Nat) (G : GB) (i : Nat → Int32) (j : Nat → Int64) (a : Nat → Nat → Int32) (b : Nat → Nat → Int64) (v1 : Int64) (v3 : Int64) (v5 : Int32) (v6 : Int32) (s0 : Int32) (s1 : Int32) : Option ((Nat → Int32) × (Nat → Int64) × (Nat → Nat → Int32) × (Nat → Nat → Int64) × Int64) := ob1 (s1 + s0 : Int32) (fun x_1 => ob1 (upd i 96 x_1 : Nat → Int32) (fun i_2 => ob1 (i_2 107 : Int32) (fun x_3 => ob1 (i_2 117 : Int32) (fun x_4 => ck x_4 151 (ob1 (sv a 121 x_4.toNatClampNeg (i_2 99) : Nat → Nat → Int32) (fun a_6 => ob1 ((i_2 117) + 1 : Int32) (fun x_7 => ob1 (upd i_2 117 x_7 : Nat → Int32) (fun i_8 => ob1 ((i_8 97) + 1 : Int32) (fun x_9 => ob1 (upd i_8 97 x_9 : Nat → Int32) (fun i_10 => m_Model_forEach_b113 n G n i_10 j a_6 b v1 v3 v5 v6 x_3 (1 : Int32) x_4 (0 : Int32)))))))))))
set_option maxHeartbeats 4000000 in
set_option maxRecDepth 100000 in
theorem lb_Model_forEach_60 (d : Nat) (G : GB) (l : Launch) (dC : Nat → ClassId) (dI : Nat → Nat → Nat) (cI cJ cB : ClassId) (adK adV adA : Nat → Nat) (h : Nat) (v : Nat → Nat) (n : Nat) (HG : GH l dC dI cI cJ cB adK adV adA h v n G d) {p : Program} {e : Env} {s : State} {m : MethodId} {args : Array Value} {below : List Frame} {meth : Method} {c : Code} {A : Nat → Prop} (hx : p.tables.exec = Jvm.exec) (hb : c.code = b_Model_forEach) (hml : c.maxLocals = 13) (hown : s.vm.findClass R_Model = some m.cls) (hts : ∀ w ∈ w_Model_forEach, w.before args s = true) (hK : va_K (dC, dI) classes [(cI, .int), (cJ, .long), (cB, .byte)] s) (hE : tw_E adK adV adA A s s.heap) (hA : ∀ q : Nat, s.heap.size ≤ q → A q) (hr : meth.sig.returnType = (some .long)) (hlocks : meth.locks = false) {i2 : Nat → Int32} {j2 : Nat → Int64} {a2 : Nat → Nat → Int32} {b2 : Nat → Nat → Int64} {r2 : Int64} (i : Nat → Int32) (j : Nat → Int64) (a : Nat → Nat → Int32) (b : Nat → Nat → Int64) (v1 : Int64) (v3 : Int64) (v5 : Int32) (v6 : Int32) (s0 : Int32) (s1 : Int32) (hm : m_Model_forEach_b60 n G i j a b v1 v3 v5 v6 s0 s1 = some (i2, j2, a2, b2, r2)) : ∀ (H : Heap) (locs : List Loc) (ls : Array Slot), va_P (dC, dI) classes (MW cI cJ cB h v i j a b) H → va_D A (MW cI cJ cB h v i j a b) → va_S A s.heap H locs → lv_has ls 13 [(0, .ref h), (1, .long v1), (3, .long v3), (5, .int v5), (6, .int v6)] → W p l e (gR (d + 1)) s m args below meth c H locs 0 0 (MQ below (va_Ql (xR r2) (yB dC dI cI cJ cB h v i2 j2 a2 b2 A) A) args s 0 0 A) (F0 m 60 ls [.int s0, .int s1, .ref h]) := by
  have htt : ∀ w ∈ tw_T, w.before _ s = true := fun w h => hts w (List.mem_cons_of_mem _ h)
  intro H locs ls hP hD hS hl
  rw [m_Model_forEach_b60] at hm
  refine lv_iadd hx hb d_Model_forEach_60 ?_
  refine lv_topi (fun x_1 ex_1 => ?_)
  replace hm := ob1_at ex_1 hm
  refine va_put (D := (dC, dI)) (ci := 12) (v := .int x_1) (ty := .int) (C := R_Model) (T := F_Model) (N := 127) hx hb htt iw_Model t_Model t_Model_ok n_Model hown hK hP hD hS 0 yo_12 rfl 96 (Nat.le_of_ble_eq_true rfl) (htt _ lk_Model_556) (fun _ h9 => h9) rfl (by decide +kernel) rfl rfl yl_96 d_Model_forEach_61 (fun H locs hP hD hS => ?_)
  obtain ⟨i_2, ei_2⟩ : ∃ y9 : Nat → Int32, y9 = upd i 96 x_1 := ⟨_, rfl⟩
  replace hm := ob1_at ei_2 hm
  obtain ⟨hP, hD⟩ := yw_96 ei_2 hP hD
  refine lv_aload_n hx hb d_Model_forEach_64 rfl (lv_at hl 0 rfl) ?_
  refine va_get (D := (dC, dI)) (ci := 12) (v := .int (i_2 107)) (C := R_Model) (T := F_Model) (N := 127) hx hb htt iw_Model hown hK hP 0 yo_12 rfl 107 (Nat.le_of_ble_eq_true rfl) (htt _ lk_Model_562) (fun _ h9 => h9) yg_107 d_Model_forEach_65 ?_
  refine lv_topi (fun x_3 ex_3 => ?_)
  replace hm := ob1_at ex_3 hm
  refine lv_istore (lv' := [(7, .int x_3), (0, .ref h), (1, .long v1), (3, .long v3), (5, .int v5), (6, .int v6)]) hx hb d_Model_forEach_68 hl (by decide) rfl (fun ls hl => ?_)
  refine lv_iconst (v := 1) hx hb d_Model_forEach_70 (by decide) ?_
  refine lv_istore (lv' := [(8, .int 1), (7, .int x_3), (0, .ref h), (1, .long v1), (3, .long v3), (5, .int v5), (6, .int v6)]) hx hb d_Model_forEach_71 hl (by decide) rfl (fun ls hl => ?_)
  refine lv_aload_n hx hb d_Model_forEach_73 rfl (lv_at hl 2 rfl) ?_
  refine va_get (D := (dC, dI)) (ci := 12) (v := .int (i_2 117)) (C := R_Model) (T := F_Model) (N := 127) hx hb htt iw_Model hown hK hP 0 yo_12 rfl 117 (Nat.le_of_ble_eq_true rfl) (htt _ lk_Model_568) (fun _ h9 => h9) yg_117 d_Model_forEach_74 ?_
  refine lv_topi (fun x_4 ex_4 => ?_)
  replace hm := ob1_at ex_4 hm
  refine lv_istore (lv' := [(9, .int x_4), (8, .int 1), (7, .int x_3), (0, .ref h), (1, .long v1), (3, .long v3), (5, .int v5), (6, .int v6)]) hx hb d_Model_forEach_77 hl (by decide) rfl (fun ls hl => ?_)
  refine lv_aload_n hx hb d_Model_forEach_79 rfl (lv_at hl 3 rfl) ?_
  refine va_get (D := (dC, dI)) (ci := 12) (v := .ref ((v 121))) (C := R_Model) (T := F_Model) (N := 127) hx hb htt iw_Model hown hK hP 0 yo_12 rfl 121 (Nat.le_of_ble_eq_true rfl) (htt _ lk_Model_322) (fun _ h9 => h9) yg_121 d_Model_forEach_80 ?_
  refine lv_iload hx hb d_Model_forEach_83 (lv_at hl 0 rfl) ?_
  refine lv_aload_n hx hb d_Model_forEach_85 rfl (lv_at hl 3 rfl) ?_
  refine va_get (D := (dC, dI)) (ci := 12) (v := .int (i_2 99)) (C := R_Model) (T := F_Model) (N := 127) hx hb htt iw_Model hown hK hP 0 yo_12 rfl 99 (Nat.le_of_ble_eq_true rfl) (htt _ lk_Model_538) (fun _ h9 => h9) yg_99 d_Model_forEach_86 ?_
  obtain ⟨h_5, hm⟩ := ck_some hm
  refine va_iast hx hb hK hP hD hS 68 0 ya_121 rfl h_5 d_Model_forEach_89 (fun H locs hP hD hS => ?_)
  obtain ⟨a_6, ea_6⟩ : ∃ y9 : Nat → Nat → Int32, y9 = sv a 121 x_4.toNatClampNeg (i_2 99) := ⟨_, rfl⟩
  replace hm := ob1_at ea_6 hm
  obtain ⟨hP, hD⟩ := yv_121 ea_6 hP hD
  refine lv_aload_n hx hb d_Model_forEach_90 rfl (lv_at hl 3 rfl) ?_
  refine lv_dup hx hb d_Model_forEach_91 rfl ?_
  refine va_get (D := (dC, dI)) (ci := 12) (v := .int (i_2 117)) (C := R_Model) (T := F_Model) (N := 127) hx hb htt iw_Model hown hK hP 0 yo_12 rfl 117 (Nat.le_of_ble_eq_true rfl) (htt _ lk_Model_568) (fun _ h9 => h9) yg_117 d_Model_forEach_92 ?_
  refine lv_iconst (v := 1) hx hb d_Model_forEach_95 (by decide) ?_
  refine lv_iadd hx hb d_Model_forEach_96 ?_
  refine lv_topi (fun x_7 ex_7 => ?_)
  replace hm := ob1_at ex_7 hm
  refine va_put (D := (dC, dI)) (ci := 12) (v := .int x_7) (ty := .int) (C := R_Model) (T := F_Model) (N := 127) hx hb htt iw_Model t_Model t_Model_ok n_Model hown hK hP hD hS 0 yo_12 rfl 117 (Nat.le_of_ble_eq_true rfl) (htt _ lk_Model_568) (fun _ h9 => h9) rfl (by decide +kernel) rfl rfl yl_117 d_Model_forEach_97 (fun H locs hP hD hS => ?_)
  obtain ⟨i_8, ei_8⟩ : ∃ y9 : Nat → Int32, y9 = upd i_2 117 x_7 := ⟨_, rfl⟩
  replace hm := ob1_at ei_8 hm
  obtain ⟨hP, hD⟩ := yw_117 ei_8 hP hD
  refine lv_aload_n hx hb d_Model_forEach_100 rfl (lv_at hl 3 rfl) ?_
  refine lv_dup hx hb d_Model_forEach_101 rfl ?_
  refine va_get (D := (dC, dI)) (ci := 12) (v := .int (i_8 97)) (C := R_Model) (T := F_Model) (N := 127) hx hb htt iw_Model hown hK hP 0 yo_12 rfl 97 (Nat.le_of_ble_eq_true rfl) (htt _ lk_Model_532) (fun _ h9 => h9) yg_97 d_Model_forEach_102 ?_
  refine lv_iconst (v := 1) hx hb d_Model_forEach_105 (by decide) ?_
  refine lv_iadd hx hb d_Model_forEach_106 ?_
  refine lv_topi (fun x_9 ex_9 => ?_)
  replace hm := ob1_at ex_9 hm
  refine va_put (D := (dC, dI)) (ci := 12) (v := .int x_9) (ty := .int) (C := R_Model) (T := F_Model) (N := 127) hx hb htt iw_Model t_Model t_Model_ok n_Model hown hK hP hD hS 0 yo_12 rfl 97 (Nat.le_of_ble_eq_true rfl) (htt _ lk_Model_532) (fun _ h9 => h9) rfl (by decide +kernel) rfl rfl yl_97 d_Model_forEach_107 (fun H locs hP hD hS => ?_)
  obtain ⟨i_10, ei_10⟩ : ∃ y9 : Nat → Int32, y9 = upd i_8 97 x_9 := ⟨_, rfl⟩
  replace hm := ob1_at ei_10 hm
  obtain ⟨hP, hD⟩ := yw_97 ei_10 hP hD
  refine lv_iconst (v := 0) hx hb d_Model_forEach_110 (by decide) ?_
  refine lv_istore (lv' := [(10, .int 0), (9, .int x_4), (8, .int 1), (7, .int x_3), (0, .ref h), (1, .long v1), (3, .long v3), (5, .int v5), (6, .int v6)]) hx hb d_Model_forEach_111 hl (by decide) rfl (fun ls hl => ?_)
  exact lb_Model_forEach_113 d G l dC dI cI cJ cB adK adV adA h v n HG hx hb hml hown hts hK hE hA hr hlocks n _ _ _ _ _ _ _ _ _ _ _ _ hm _ _ _ hP hD hS (lv_sub hl [4, 5, 6, 7, 8, 3, 2, 1, 0] rfl)
def m_Model_forEach_b45 (n : Nat) (G : GB) (i : Nat → Int32) (j : Nat → Int64) (a : Nat → Nat → Int32) (b : Nat → Nat → Int64) (v1 : Int64) (v3 : Int64) (v5 : Int32) (v6 : Int32) : Option ((Nat → Int32) × (Nat → Int64) × (Nat → Nat → Int32) × (Nat → Nat → Int64) × Int64) := if v5 = ((0 : Int32)) then m_Model_forEach_b60 n G i j a b v1 v3 v5 v6 (0 : Int32) (i 96) else m_Model_forEach_b60 n G i j a b v1 v3 v5 v6 (1 : Int32) (i 96)
set_option maxHeartbeats 4000000 in
set_option maxRecDepth 100000 in
theorem lb_Model_forEach_45 (d : Nat) (G : GB) (l : Launch) (dC : Nat → ClassId) (dI : Nat → Nat → Nat) (cI cJ cB : ClassId) (adK adV adA : Nat → Nat) (h : Nat) (v : Nat → Nat) (n : Nat) (HG : GH l dC dI cI cJ cB adK adV adA h v n G d) {p : Program} {e : Env} {s : State} {m : MethodId} {args : Array Value} {below : List Frame} {meth : Method} {c : Code} {A : Nat → Prop} (hx : p.tables.exec = Jvm.exec) (hb : c.code = b_Model_forEach) (hml : c.maxLocals = 13) (hown : s.vm.findClass R_Model = some m.cls) (hts : ∀ w ∈ w_Model_forEach, w.before args s = true) (hK : va_K (dC, dI) classes [(cI, .int), (cJ, .long), (cB, .byte)] s) (hE : tw_E adK adV adA A s s.heap) (hA : ∀ q : Nat, s.heap.size ≤ q → A q) (hr : meth.sig.returnType = (some .long)) (hlocks : meth.locks = false) {i2 : Nat → Int32} {j2 : Nat → Int64} {a2 : Nat → Nat → Int32} {b2 : Nat → Nat → Int64} {r2 : Int64} (i : Nat → Int32) (j : Nat → Int64) (a : Nat → Nat → Int32) (b : Nat → Nat → Int64) (v1 : Int64) (v3 : Int64) (v5 : Int32) (v6 : Int32) (hm : m_Model_forEach_b45 n G i j a b v1 v3 v5 v6 = some (i2, j2, a2, b2, r2)) : ∀ (H : Heap) (locs : List Loc) (ls : Array Slot), va_P (dC, dI) classes (MW cI cJ cB h v i j a b) H → va_D A (MW cI cJ cB h v i j a b) → va_S A s.heap H locs → lv_has ls 13 [(0, .ref h), (1, .long v1), (3, .long v3), (5, .int v5), (6, .int v6)] → W p l e (gR (d + 1)) s m args below meth c H locs 0 0 (MQ below (va_Ql (xR r2) (yB dC dI cI cJ cB h v i2 j2 a2 b2 A) A) args s 0 0 A) (F0 m 45 ls []) := by
  have htt : ∀ w ∈ tw_T, w.before _ s = true := fun w h => hts w (List.mem_cons_of_mem _ h)
  intro H locs ls hP hD hS hl
  rw [m_Model_forEach_b45] at hm
  refine lv_aload_n hx hb d_Model_forEach_45 rfl (lv_at hl 0 rfl) ?_
  refine lv_dup hx hb d_Model_forEach_46 rfl ?_
  refine va_get (D := (dC, dI)) (ci := 12) (v := .int (i 96)) (C := R_Model) (T := F_Model) (N := 127) hx hb htt iw_Model hown hK hP 0 yo_12 rfl 96 (Nat.le_of_ble_eq_true rfl) (htt _ lk_Model_556) (fun _ h9 => h9) yg_96 d_Model_forEach_47 ?_
  refine lv_iload hx hb d_Model_forEach_50 (lv_at hl 3 rfl) ?_
  refine lv_if_eq (tgt := 59) hx hb d_Model_forEach_52 (by decide) (fun c_1 => ?_) (fun c_1 => ?_)
  · replace hm := if_t c_1 hm
    refine lv_iconst (v := 0) hx hb d_Model_forEach_59 (by decide) ?_
    exact lb_Model_forEach_60 d G l dC dI cI cJ cB adK adV adA h v n HG hx hb hml hown hts hK hE hA hr hlocks _ _ _ _ _ _ _ _ _ _ hm _ _ _ hP hD hS (lv_sub hl [0, 1, 2, 3, 4] rfl)
  · replace hm := if_f c_1 hm
    refine lv_iconst (v := 1) hx hb d_Model_forEach_55 (by decide) ?_
    refine lv_goto (tgt := 60) hx hb d_Model_forEach_56 (by decide) ?_
    exact lb_Model_forEach_60 d G l dC dI cI cJ cB adK adV adA h v n HG hx hb hml hown hts hK hE hA hr hlocks _ _ _ _ _ _ _ _ _ _ hm _ _ _ hP hD hS (lv_sub hl [0, 1, 2, 3, 4] rfl)
def m_Model_forEach_b29 (n : Nat) (G : GB) (i : Nat → Int32) (j : Nat → Int64) (a : Nat → Nat → Int32) (b : Nat → Nat → Int64) (v1 : Int64) (v3 : Int64) (v5 : Int32) (v6 : Int32) : Option ((Nat → Int32) × (Nat → Int64) × (Nat → Nat → Int32) × (Nat → Nat → Int64) × Int64) := if v6 ≤ ((0 : Int32)) then m_Model_forEach_b45 n G i j a b v1 v3 v5 v6 else om (m_Model_hasLevel n i j a b) (fun i_3 j_4 a_5 b_6 r_7 => if r_7 = ((0 : Int32)) then some (i_3, j_4, a_5, b_6, 3) else m_Model_forEach_b45 n G i_3 j_4 a_5 b_6 v1 v3 v5 v6)
set_option maxHeartbeats 4000000 in
set_option maxRecDepth 100000 in
theorem lb_Model_forEach_29 (d : Nat) (G : GB) (l : Launch) (dC : Nat → ClassId) (dI : Nat → Nat → Nat) (cI cJ cB : ClassId) (adK adV adA : Nat → Nat) (h : Nat) (v : Nat → Nat) (n : Nat) (HG : GH l dC dI cI cJ cB adK adV adA h v n G d) {p : Program} {e : Env} {s : State} {m : MethodId} {args : Array Value} {below : List Frame} {meth : Method} {c : Code} {A : Nat → Prop} (hx : p.tables.exec = Jvm.exec) (hb : c.code = b_Model_forEach) (hml : c.maxLocals = 13) (hown : s.vm.findClass R_Model = some m.cls) (hts : ∀ w ∈ w_Model_forEach, w.before args s = true) (hK : va_K (dC, dI) classes [(cI, .int), (cJ, .long), (cB, .byte)] s) (hE : tw_E adK adV adA A s s.heap) (hA : ∀ q : Nat, s.heap.size ≤ q → A q) (hr : meth.sig.returnType = (some .long)) (hlocks : meth.locks = false) {i2 : Nat → Int32} {j2 : Nat → Int64} {a2 : Nat → Nat → Int32} {b2 : Nat → Nat → Int64} {r2 : Int64} (i : Nat → Int32) (j : Nat → Int64) (a : Nat → Nat → Int32) (b : Nat → Nat → Int64) (v1 : Int64) (v3 : Int64) (v5 : Int32) (v6 : Int32) (hm : m_Model_forEach_b29 n G i j a b v1 v3 v5 v6 = some (i2, j2, a2, b2, r2)) : ∀ (H : Heap) (locs : List Loc) (ls : Array Slot), va_P (dC, dI) classes (MW cI cJ cB h v i j a b) H → va_D A (MW cI cJ cB h v i j a b) → va_S A s.heap H locs → lv_has ls 13 [(0, .ref h), (1, .long v1), (3, .long v3), (5, .int v5), (6, .int v6)] → W p l e (gR (d + 1)) s m args below meth c H locs 0 0 (MQ below (va_Ql (xR r2) (yB dC dI cI cJ cB h v i2 j2 a2 b2 A) A) args s 0 0 A) (F0 m 29 ls []) := by
  have htt : ∀ w ∈ tw_T, w.before _ s = true := fun w h => hts w (List.mem_cons_of_mem _ h)
  intro H locs ls hP hD hS hl
  rw [m_Model_forEach_b29] at hm
  refine lv_iload hx hb d_Model_forEach_29 (lv_at hl 4 rfl) ?_
  refine lv_if_le (tgt := 45) hx hb d_Model_forEach_31 (by decide) (fun c_1 => ?_) (fun c_1 => ?_)
  · replace hm := if_t c_1 hm
    exact lb_Model_forEach_45 d G l dC dI cI cJ cB adK adV adA h v n HG hx hb hml hown hts hK hE hA hr hlocks _ _ _ _ _ _ _ _ hm _ _ _ hP hD hS (lv_sub hl [0, 1, 2, 3, 4] rfl)
  · replace hm := if_f c_1 hm
    refine lv_aload_n hx hb d_Model_forEach_34 rfl (lv_at hl 0 rfl) ?_
    obtain ⟨i_3, j_4, a_5, b_6, r_7, h_2, hm⟩ := om_some hm
    have hFc := x_free hD hS hA
    refine va_calli (va_runV (As := []) (rest := []) ⟨hx, hb, hml, hown, hts⟩ (x_Model_hasLevel l dC dI cI cJ cB adK adV adA h v H.size n h_2) (cwV 0 hts (tw_GV tw_cons cw_Model_hasLevel lk_Model_646 in_Model_hasLevel sel_Model_hasLevel ini_Model) rfl rfl rfl ⟨rfl, hd_Model_hasLevel⟩ (gR_fit (d + 1) (Nat.le_of_ble_eq_true rfl) (Nat.le_of_ble_eq_true rfl))) (ypV hK hP hD hS hE hFc yo_12 rfl) rfl rfl hl.1 rfl (lv_room (Nat.le_of_ble_eq_true rfl)) d_Model_forEach_35 ⟨Nat.le_of_ble_eq_true rfl, Nat.le_of_ble_eq_true rfl⟩) hS (fun q _ h => hFc q h) hFc (fun r9 u9 t9 H locs ht hvm e9 hB hz1 hk1 hS => ?_)
    have e9 : r_7 = r9 := e9
    subst e9
    obtain ⟨hP, hD⟩ := y_aft hB ht hFc
    clear hFc hk1 hz1 hvm hB ht
    refine lv_if_ne (tgt := 45) hx hb d_Model_forEach_38 (by decide) (fun c_8 => ?_) (fun c_8 => ?_)
    · replace hm := if_f c_8 hm
      exact lb_Model_forEach_45 d G l dC dI cI cJ cB adK adV adA h v n HG hx hb hml hown hts hK hE hA hr hlocks _ _ _ _ _ _ _ _ hm _ _ _ hP hD hS (lv_sub hl [0, 1, 2, 3, 4] rfl)
    · replace hm := if_t c_8 hm
      refine lv_ldc2 (v := 3) hx hb hown (htt _ lk_Model_7) d_Model_forEach_41 ?_
      obtain ⟨e1i, e1j, e1a, e1b, e3⟩ := re4m hm
      obtain ⟨hP, hD⟩ := y_eq e1i e1j e1a e1b hP hD
      exact W.lret hx hb hr (fun t9 ht hW => ⟨⟨_, (), rfl, e3.symm, by rw [ht]; exact hP, hD⟩, hS.F ht⟩) hS.2.2 d_Model_forEach_44
def m_Model_forEach (n : Nat) (G : GB) (i : Nat → Int32) (j : Nat → Int64) (a : Nat → Nat → Int32) (b : Nat → Nat → Int64) (v1 : Int64) (v3 : Int64) (v5 : Int32) : Option ((Nat → Int32) × (Nat → Int64) × (Nat → Nat → Int32) × (Nat → Nat → Int64) × Int64) := ob0 (m_Model_size n i j a b v1) (fun r_2 => if v5 = ((0 : Int32)) then m_Model_forEach_b29 n G i j a b v1 v3 v5 r_2 else if ((i 96)) = ((30000 : Int32)) then om (m_Model_fails n i j a b (8 : Int32)) (fun i_6 j_7 a_8 b_9 r_10 => some (i_6, j_7, a_8, b_9, r_10)) else m_Model_forEach_b29 n G i j a b v1 v3 v5 r_2)
set_option maxHeartbeats 4000000 in
set_option maxRecDepth 100000 in
theorem x_Model_forEach (d : Nat) (G : GB) (l : Launch) (dC : Nat → ClassId) (dI : Nat → Nat → Nat) (cI cJ cB : ClassId) (adK adV adA : Nat → Nat) (h : Nat) (v : Nat → Nat) (sz : Nat) (n : Nat) (HG : GH l dC dI cI cJ cB adK adV adA h v n G d) {i : Nat → Int32} {j : Nat → Int64} {a : Nat → Nat → Int32} {b : Nat → Nat → Int64} {v1 : Int64} {v3 : Int64} {v5 : Int32} {i2 : Nat → Int32} {j2 : Nat → Int64} {a2 : Nat → Nat → Int32} {b2 : Nat → Nat → Int64} {r2 : Int64} (hm : m_Model_forEach n G i j a b v1 v3 v5 = some (i2, j2, a2, b2, r2)) : Met l y_Model_forEach w_Model_forEach (gR (d + 1)) (va_Pc [.ref h, .long v1, .long v3, .int v5] (yE dC dI cI cJ cB adK adV adA h v i j a b sz)) (va_Ql (xR r2) (yB dC dI cI cJ cB h v i2 j2 a2 b2 (va_A (MW cI cJ cB h v i j a b) sz)) (va_A (MW cI cJ cB h v i j a b) sz)) 0 0 ((va_A (MW cI cJ cB h v i j a b) sz)) := by
  refine Met.ofW (cc := b_Model_forEach) (maxL := 13) (ret := (some .long)) (by decide) rfl ?_
  intro p e s m args below meth c s₁ B hml hv
  obtain ⟨rfl, hsz, hP, hK, hE, hD0⟩ := hv
  have hx := B.exec
  have hb := B.bytes
  have hr := B.returns
  have hts := atoms_spec (ws := w_Model_forEach) B.pre
  have htt : ∀ w ∈ tw_T, w.before _ s = true := fun w h => hts w (List.mem_cons_of_mem _ h)
  have hown : s.vm.findClass R_Model = some m.cls := findClass_of_methodNamed B.named
  have hlocks := B.notSynchronized
  subst hsz
  have hD := hD0.self (sz := s.heap.size)
  generalize hAe : (va_A (MW cI cJ cB h v i j a b) s.heap.size) = A at hD hE ⊢
  have hA : ∀ q : Nat, s.heap.size ≤ q → A q := fun q h => by rw [← hAe]; exact Or.inr h
  have hS : va_S A s.heap s.heap [] := va_S.rf
  have hl := lv_entry ([.ref h, .long v1, .long v3, .int v5]) (n := 13) (Nat.le_of_ble_eq_true rfl)
  rw [lg_entry_eq]
  generalize (lg_sl ([.ref h, .long v1, .long v3, .int v5]) ++ List.replicate (13 - (lg_sl ([.ref h, .long v1, .long v3, .int v5])).length) Slot.unset).toArray = ls at hl ⊢
  have hl : lv_has ls 13 [(0, .ref h), (1, .long v1), (3, .long v3), (5, .int v5)] := hl
  rw [m_Model_forEach] at hm
  refine lv_aload_n hx hb d_Model_forEach_0 rfl (lv_at hl 0 rfl) ?_
  refine lv_lload_n hx hb d_Model_forEach_1 rfl (lv_at hl 1 rfl) ?_
  obtain ⟨r_2, h_1, hm⟩ := ob0_some hm
  have hFc := x_free0 hS hA
  refine va_calli (va_runV (As := [.long v1]) (rest := []) ⟨hx, hb, hml, hown, hts⟩ (x_Model_size l dC dI cI cJ cB adK adV adA h v s.heap.size n h_1) (cwV 1 hts (tw_GV tw_cons cw_Model_size lk_Model_98 in_Model_size sel_Model_size ini_Model) rfl rfl rfl ⟨rfl, hd_Model_size⟩ (gR_fit (d + 1) (Nat.le_of_ble_eq_true rfl) (Nat.le_of_ble_eq_true rfl))) (ypVr hK hP hS hE hFc yo_12 rfl) rfl rfl hl.1 rfl (lv_room (Nat.le_of_ble_eq_true rfl)) d_Model_forEach_2 ⟨Nat.le_of_ble_eq_true rfl, Nat.le_of_ble_eq_true rfl⟩) hS (fun q _ h => hFc q h) hFc (fun r9 u9 t9 H locs ht hvm e9 hB hz1 hk1 hS => ?_)
  have e9 : r_2 = r9 := e9
  subst e9
  replace hP := x_keep hP hk1
  clear hFc hk1 hz1 hvm hB ht
  refine lv_istore (lv' := [(6, .int r_2), (0, .ref h), (1, .long v1), (3, .long v3), (5, .int v5)]) hx hb d_Model_forEach_5 hl (by decide) rfl (fun ls hl => ?_)
  refine lv_iload hx hb d_Model_forEach_7 (lv_at hl 4 rfl) ?_
  refine lv_if_eq (tgt := 29) hx hb d_Model_forEach_9 (by decide) (fun c_3 => ?_) (fun c_3 => ?_)
  · replace hm := if_t c_3 hm
    exact lb_Model_forEach_29 d G l dC dI cI cJ cB adK adV adA h v n HG hx hb hml hown hts hK hE hA hr hlocks _ _ _ _ _ _ _ _ hm _ _ _ hP hD hS (lv_sub hl [1, 2, 3, 4, 0] rfl)
  · replace hm := if_f c_3 hm
    refine lv_aload_n hx hb d_Model_forEach_12 rfl (lv_at hl 1 rfl) ?_
    refine va_get (D := (dC, dI)) (ci := 12) (v := .int (i 96)) (C := R_Model) (T := F_Model) (N := 127) hx hb htt iw_Model hown hK hP 0 yo_12 rfl 96 (Nat.le_of_ble_eq_true rfl) (htt _ lk_Model_556) (fun _ h9 => h9) yg_96 d_Model_forEach_13 ?_
    refine lv_sipush (v := 30000) hx hb d_Model_forEach_16 (by decide) ?_
    refine lv_icmp_ne (tgt := 29) hx hb d_Model_forEach_19 (by decide) (fun c_4 => ?_) (fun c_4 => ?_)
    · replace hm := if_f c_4 hm
      exact lb_Model_forEach_29 d G l dC dI cI cJ cB adK adV adA h v n HG hx hb hml hown hts hK hE hA hr hlocks _ _ _ _ _ _ _ _ hm _ _ _ hP hD hS (lv_sub hl [1, 2, 3, 4, 0] rfl)
    · replace hm := if_t c_4 hm
      refine lv_aload_n hx hb d_Model_forEach_22 rfl (lv_at hl 1 rfl) ?_
      refine lv_bipush (v := 8) hx hb d_Model_forEach_23 (by decide) ?_
      obtain ⟨i_6, j_7, a_8, b_9, r_10, h_5, hm⟩ := om_some hm
      have hFc := x_free hD hS hA
      refine va_calll (va_runV (As := [.int 8]) (rest := []) ⟨hx, hb, hml, hown, hts⟩ (x_Model_fails l dC dI cI cJ cB adK adV adA h v H.size n h_5) (cwV 1 hts (tw_GV tw_cons cw_Model_fails lk_Model_596 in_Model_fails sel_Model_fails ini_Model) rfl rfl rfl ⟨rfl, hd_Model_fails⟩ (gR_fit (d + 1) (Nat.le_of_ble_eq_true rfl) (Nat.le_of_ble_eq_true rfl))) (ypV hK hP hD hS hE hFc yo_12 rfl) rfl rfl hl.1 rfl (lv_room (Nat.le_of_ble_eq_true rfl)) d_Model_forEach_25 ⟨Nat.le_of_ble_eq_true rfl, Nat.le_of_ble_eq_true rfl⟩) hS (fun q _ h => hFc q h) hFc (fun r9 u9 t9 H locs ht hvm e9 hB hz1 hk1 hS => ?_)
      have e9 : r_10 = r9 := e9
      subst e9
      obtain ⟨hP, hD⟩ := y_aft hB ht hFc
      clear hFc hk1 hz1 hvm hB ht
      obtain ⟨e1i, e1j, e1a, e1b, e3⟩ := re4m hm
      obtain ⟨hP, hD⟩ := y_eq e1i e1j e1a e1b hP hD
      exact W.lret hx hb hr (fun t9 ht hW => ⟨⟨_, (), rfl, e3.symm, by rw [ht]; exact hP, hD⟩, hS.F ht⟩) hS.2.2 d_Model_forEach_28

def m_Model_asked_b19 (n : Nat) (G : GB) (i : Nat → Int32) (j : Nat → Int64) (a : Nat → Nat → Int32) (b : Nat → Nat → Int64) (v1 : Int32) (v2 : Int64) (v4 : Int32) : Option ((Nat → Int32) × (Nat → Int64) × (Nat → Nat → Int32) × (Nat → Nat → Int64) × Int64) := ob1 ((i 103) + 1 : Int32) (fun x_1 => ob1 (upd i 103 x_1 : Nat → Int32) (fun i_2 => ob1 (upd i_2 47 v1 : Nat → Int32) (fun i_3 => om (G.2.2.1 i_3 j a b v2 (1 : Int32)) (fun i_5 j_6 a_7 b_8 r_9 => if ((i_5 102)) = ((1 : Int32)) then some (i_5, j_6, a_7, b_8, 3) else ob1 ((i_5 103) - 1 : Int32) (fun x_11 => ob1 (upd i_5 103 x_11 : Nat → Int32) (fun i_12 => ob1 (upd i_12 47 v4 : Nat → Int32) (fun i_13 => some (i_13, j_6, a_7, b_8, r_9))))))))
set_option maxHeartbeats 4000000 in
set_option maxRecDepth 100000 in
theorem lb_Model_asked_19 (d : Nat) (G : GB) (l : Launch) (dC : Nat → ClassId) (dI : Nat → Nat → Nat) (cI cJ cB : ClassId) (adK adV adA : Nat → Nat) (h : Nat) (v : Nat → Nat) (n : Nat) (HG : GH l dC dI cI cJ cB adK adV adA h v n G d) {p : Program} {e : Env} {s : State} {m : MethodId} {args : Array Value} {below : List Frame} {meth : Method} {c : Code} {A : Nat → Prop} (hx : p.tables.exec = Jvm.exec) (hb : c.code = b_Model_asked) (hml : c.maxLocals = 7) (hown : s.vm.findClass R_Model = some m.cls) (hts : ∀ w ∈ w_Model_asked, w.before args s = true) (hK : va_K (dC, dI) classes [(cI, .int), (cJ, .long), (cB, .byte)] s) (hE : tw_E adK adV adA A s s.heap) (hA : ∀ q : Nat, s.heap.size ≤ q → A q) (hr : meth.sig.returnType = (some .long)) (hlocks : meth.locks = false) {i2 : Nat → Int32} {j2 : Nat → Int64} {a2 : Nat → Nat → Int32} {b2 : Nat → Nat → Int64} {r2 : Int64} (i : Nat → Int32) (j : Nat → Int64) (a : Nat → Nat → Int32) (b : Nat → Nat → Int64) (v1 : Int32) (v2 : Int64) (v4 : Int32) (hm : m_Model_asked_b19 n G i j a b v1 v2 v4 = some (i2, j2, a2, b2, r2)) : ∀ (H : Heap) (locs : List Loc) (ls : Array Slot), va_P (dC, dI) classes (MW cI cJ cB h v i j a b) H → va_D A (MW cI cJ cB h v i j a b) → va_S A s.heap H locs → lv_has ls 7 [(0, .ref h), (1, .int v1), (2, .long v2), (4, .int v4)] → W p l e (gR (d + 1)) s m args below meth c H locs 0 0 (MQ below (va_Ql (xR r2) (yB dC dI cI cJ cB h v i2 j2 a2 b2 A) A) args s 0 0 A) (F0 m 19 ls []) := by
  have htt : ∀ w ∈ tw_T, w.before _ s = true := fun w h => hts w (List.mem_cons_of_mem _ h)
  intro H locs ls hP hD hS hl
  rw [m_Model_asked_b19] at hm
  refine lv_aload_n hx hb d_Model_asked_19 rfl (lv_at hl 0 rfl) ?_
  refine lv_dup hx hb d_Model_asked_20 rfl ?_
  refine va_get (D := (dC, dI)) (ci := 12) (v := .int (i 103)) (C := R_Model) (T := F_Model) (N := 127) hx hb htt iw_Model hown hK hP 0 yo_12 rfl 103 (Nat.le_of_ble_eq_true rfl) (htt _ lk_Model_541) (fun _ h9 => h9) yg_103 d_Model_asked_21 ?_
  refine lv_iconst (v := 1) hx hb d_Model_asked_24 (by decide) ?_
  refine lv_iadd hx hb d_Model_asked_25 ?_
  refine lv_topi (fun x_1 ex_1 => ?_)
  replace hm := ob1_at ex_1 hm
  refine va_put (D := (dC, dI)) (ci := 12) (v := .int x_1) (ty := .int) (C := R_Model) (T := F_Model) (N := 127) hx hb htt iw_Model t_Model t_Model_ok n_Model hown hK hP hD hS 0 yo_12 rfl 103 (Nat.le_of_ble_eq_true rfl) (htt _ lk_Model_541) (fun _ h9 => h9) rfl (by decide +kernel) rfl rfl yl_103 d_Model_asked_26 (fun H locs hP hD hS => ?_)
  obtain ⟨i_2, ei_2⟩ : ∃ y9 : Nat → Int32, y9 = upd i 103 x_1 := ⟨_, rfl⟩
  replace hm := ob1_at ei_2 hm
  obtain ⟨hP, hD⟩ := yw_103 ei_2 hP hD
  refine lv_aload_n hx hb d_Model_asked_29 rfl (lv_at hl 0 rfl) ?_
  refine lv_iload_n hx hb d_Model_asked_30 rfl (lv_at hl 1 rfl) ?_
  refine va_put (D := (dC, dI)) (ci := 12) (v := .int v1) (ty := .int) (C := R_Model) (T := F_Model) (N := 127) hx hb htt iw_Model t_Model t_Model_ok n_Model hown hK hP hD hS 0 yo_12 rfl 47 (Nat.le_of_ble_eq_true rfl) (htt _ lk_Model_366) (fun _ h9 => h9) rfl (by decide +kernel) rfl rfl yl_47 d_Model_asked_31 (fun H locs hP hD hS => ?_)
  obtain ⟨i_3, ei_3⟩ : ∃ y9 : Nat → Int32, y9 = upd i_2 47 v1 := ⟨_, rfl⟩
  replace hm := ob1_at ei_3 hm
  obtain ⟨hP, hD⟩ := yw_47 ei_3 hP hD
  refine lv_aload_n hx hb d_Model_asked_34 rfl (lv_at hl 0 rfl) ?_
  refine lv_lload_n hx hb d_Model_asked_35 rfl (lv_at hl 2 rfl) ?_
  refine lv_iconst (v := 1) hx hb d_Model_asked_36 (by decide) ?_
  obtain ⟨i_5, j_6, a_7, b_8, r_9, h_4, hm⟩ := om_some hm
  have hFc := x_free hD hS hA
  refine va_calll (va_runV (As := [.long v2, .int 1]) (rest := []) ⟨hx, hb, hml, hown, hts⟩ (HG.2.2.1 H.size _ _ _ _ _ _ _ _ _ _ _ h_4) (cwV 2 hts (tw_GV tw_cons cw_Model_ran lk_Model_649 in_Model_ran sel_Model_ran ini_Model) rfl rfl rfl ⟨rfl, hd_Model_ran⟩ (gR_up (by decide))) (ypV hK hP hD hS hE hFc yo_12 rfl) rfl rfl hl.1 rfl (lv_room (Nat.le_of_ble_eq_true rfl)) d_Model_asked_37 ⟨Nat.le_of_ble_eq_true rfl, Nat.le_of_ble_eq_true rfl⟩) hS (fun q _ h => hFc q h) hFc (fun r9 u9 t9 H locs ht hvm e9 hB hz1 hk1 hS => ?_)
  have e9 : r_9 = r9 := e9
  subst e9
  obtain ⟨hP, hD⟩ := y_aft hB ht hFc
  clear hFc hk1 hz1 hvm hB ht
  refine lv_lstore (lv' := [(5, .long r_9), (0, .ref h), (1, .int v1), (2, .long v2), (4, .int v4)]) hx hb d_Model_asked_40 hl (by decide) rfl (fun ls hl => ?_)
  refine lv_aload_n hx hb d_Model_asked_42 rfl (lv_at hl 1 rfl) ?_
  refine va_get (D := (dC, dI)) (ci := 12) (v := .int (i_5 102)) (C := R_Model) (T := F_Model) (N := 127) hx hb htt iw_Model hown hK hP 0 yo_12 rfl 102 (Nat.le_of_ble_eq_true rfl) (htt _ lk_Model_559) (fun _ h9 => h9) yg_102 d_Model_asked_43 ?_
  refine lv_iconst (v := 1) hx hb d_Model_asked_46 (by decide) ?_
  refine lv_icmp_ne (tgt := 54) hx hb d_Model_asked_47 (by decide) (fun c_10 => ?_) (fun c_10 => ?_)
  · replace hm := if_f c_10 hm
    refine lv_aload_n hx hb d_Model_asked_54 rfl (lv_at hl 1 rfl) ?_
    refine lv_dup hx hb d_Model_asked_55 rfl ?_
    refine va_get (D := (dC, dI)) (ci := 12) (v := .int (i_5 103)) (C := R_Model) (T := F_Model) (N := 127) hx hb htt iw_Model hown hK hP 0 yo_12 rfl 103 (Nat.le_of_ble_eq_true rfl) (htt _ lk_Model_541) (fun _ h9 => h9) yg_103 d_Model_asked_56 ?_
    refine lv_iconst (v := 1) hx hb d_Model_asked_59 (by decide) ?_
    refine lv_isub hx hb d_Model_asked_60 ?_
    refine lv_topi (fun x_11 ex_11 => ?_)
    replace hm := ob1_at ex_11 hm
    refine va_put (D := (dC, dI)) (ci := 12) (v := .int x_11) (ty := .int) (C := R_Model) (T := F_Model) (N := 127) hx hb htt iw_Model t_Model t_Model_ok n_Model hown hK hP hD hS 0 yo_12 rfl 103 (Nat.le_of_ble_eq_true rfl) (htt _ lk_Model_541) (fun _ h9 => h9) rfl (by decide +kernel) rfl rfl yl_103 d_Model_asked_61 (fun H locs hP hD hS => ?_)
    obtain ⟨i_12, ei_12⟩ : ∃ y9 : Nat → Int32, y9 = upd i_5 103 x_11 := ⟨_, rfl⟩
    replace hm := ob1_at ei_12 hm
    obtain ⟨hP, hD⟩ := yw_103 ei_12 hP hD
    refine lv_aload_n hx hb d_Model_asked_64 rfl (lv_at hl 1 rfl) ?_
    refine lv_iload hx hb d_Model_asked_65 (lv_at hl 4 rfl) ?_
    refine va_put (D := (dC, dI)) (ci := 12) (v := .int v4) (ty := .int) (C := R_Model) (T := F_Model) (N := 127) hx hb htt iw_Model t_Model t_Model_ok n_Model hown hK hP hD hS 0 yo_12 rfl 47 (Nat.le_of_ble_eq_true rfl) (htt _ lk_Model_366) (fun _ h9 => h9) rfl (by decide +kernel) rfl rfl yl_47 d_Model_asked_67 (fun H locs hP hD hS => ?_)
    obtain ⟨i_13, ei_13⟩ : ∃ y9 : Nat → Int32, y9 = upd i_12 47 v4 := ⟨_, rfl⟩
    replace hm := ob1_at ei_13 hm
    obtain ⟨hP, hD⟩ := yw_47 ei_13 hP hD
    refine lv_lload hx hb d_Model_asked_70 (lv_at hl 0 rfl) ?_
    obtain ⟨e1i, e1j, e1a, e1b, e3⟩ := re4m hm
    obtain ⟨hP, hD⟩ := y_eq e1i e1j e1a e1b hP hD
    exact W.lret hx hb hr (fun t9 ht hW => ⟨⟨_, (), rfl, e3.symm, by rw [ht]; exact hP, hD⟩, hS.F ht⟩) hS.2.2 d_Model_asked_72
  · replace hm := if_t c_10 hm
    refine lv_ldc2 (v := 3) hx hb hown (htt _ lk_Model_7) d_Model_asked_50 ?_
    obtain ⟨e1i, e1j, e1a, e1b, e3⟩ := re4m hm
    obtain ⟨hP, hD⟩ := y_eq e1i e1j e1a e1b hP hD
    exact W.lret hx hb hr (fun t9 ht hW => ⟨⟨_, (), rfl, e3.symm, by rw [ht]; exact hP, hD⟩, hS.F ht⟩) hS.2.2 d_Model_asked_53
def m_Model_asked (n : Nat) (G : GB) (i : Nat → Int32) (j : Nat → Int64) (a : Nat → Nat → Int32) (b : Nat → Nat → Int64) (v1 : Int32) (v2 : Int64) : Option ((Nat → Int32) × (Nat → Int64) × (Nat → Nat → Int32) × (Nat → Nat → Int64) × Int64) := ob1 (i 47 : Int32) (fun x_1 => if ((i 103)) = ((0 : Int32)) then ob1 (upd i 104 x_1 : Nat → Int32) (fun i_3 => m_Model_asked_b19 n G i_3 j a b v1 v2 x_1) else m_Model_asked_b19 n G i j a b v1 v2 x_1)
set_option maxHeartbeats 4000000 in
set_option maxRecDepth 100000 in
theorem x_Model_asked (d : Nat) (G : GB) (l : Launch) (dC : Nat → ClassId) (dI : Nat → Nat → Nat) (cI cJ cB : ClassId) (adK adV adA : Nat → Nat) (h : Nat) (v : Nat → Nat) (sz : Nat) (n : Nat) (HG : GH l dC dI cI cJ cB adK adV adA h v n G d) {i : Nat → Int32} {j : Nat → Int64} {a : Nat → Nat → Int32} {b : Nat → Nat → Int64} {v1 : Int32} {v2 : Int64} {i2 : Nat → Int32} {j2 : Nat → Int64} {a2 : Nat → Nat → Int32} {b2 : Nat → Nat → Int64} {r2 : Int64} (hm : m_Model_asked n G i j a b v1 v2 = some (i2, j2, a2, b2, r2)) : Met l y_Model_asked w_Model_asked (gR (d + 1)) (va_Pc [.ref h, .int v1, .long v2] (yE dC dI cI cJ cB adK adV adA h v i j a b sz)) (va_Ql (xR r2) (yB dC dI cI cJ cB h v i2 j2 a2 b2 (va_A (MW cI cJ cB h v i j a b) sz)) (va_A (MW cI cJ cB h v i j a b) sz)) 0 0 ((va_A (MW cI cJ cB h v i j a b) sz)) := by
  refine Met.ofW (cc := b_Model_asked) (maxL := 7) (ret := (some .long)) (by decide) rfl ?_
  intro p e s m args below meth c s₁ B hml hv
  obtain ⟨rfl, hsz, hP, hK, hE, hD0⟩ := hv
  have hx := B.exec
  have hb := B.bytes
  have hr := B.returns
  have hts := atoms_spec (ws := w_Model_asked) B.pre
  have htt : ∀ w ∈ tw_T, w.before _ s = true := fun w h => hts w (List.mem_cons_of_mem _ h)
  have hown : s.vm.findClass R_Model = some m.cls := findClass_of_methodNamed B.named
  have hlocks := B.notSynchronized
  subst hsz
  have hD := hD0.self (sz := s.heap.size)
  generalize hAe : (va_A (MW cI cJ cB h v i j a b) s.heap.size) = A at hD hE ⊢
  have hA : ∀ q : Nat, s.heap.size ≤ q → A q := fun q h => by rw [← hAe]; exact Or.inr h
  have hS : va_S A s.heap s.heap [] := va_S.rf
  have hl := lv_entry ([.ref h, .int v1, .long v2]) (n := 7) (Nat.le_of_ble_eq_true rfl)
  rw [lg_entry_eq]
  generalize (lg_sl ([.ref h, .int v1, .long v2]) ++ List.replicate (7 - (lg_sl ([.ref h, .int v1, .long v2])).length) Slot.unset).toArray = ls at hl ⊢
  have hl : lv_has ls 7 [(0, .ref h), (1, .int v1), (2, .long v2)] := hl
  rw [m_Model_asked] at hm
  refine lv_aload_n hx hb d_Model_asked_0 rfl (lv_at hl 0 rfl) ?_
  refine va_get (D := (dC, dI)) (ci := 12) (v := .int (i 47)) (C := R_Model) (T := F_Model) (N := 127) hx hb htt iw_Model hown hK hP 0 yo_12 rfl 47 (Nat.le_of_ble_eq_true rfl) (htt _ lk_Model_366) (fun _ h9 => h9) yg_47 d_Model_asked_1 ?_
  refine lv_topi (fun x_1 ex_1 => ?_)
  replace hm := ob1_at ex_1 hm
  refine lv_istore (lv' := [(4, .int x_1), (0, .ref h), (1, .int v1), (2, .long v2)]) hx hb d_Model_asked_4 hl (by decide) rfl (fun ls hl => ?_)
  refine lv_aload_n hx hb d_Model_asked_6 rfl (lv_at hl 1 rfl) ?_
  refine va_get (D := (dC, dI)) (ci := 12) (v := .int (i 103)) (C := R_Model) (T := F_Model) (N := 127) hx hb htt iw_Model hown hK hP 0 yo_12 rfl 103 (Nat.le_of_ble_eq_true rfl) (htt _ lk_Model_541) (fun _ h9 => h9) yg_103 d_Model_asked_7 ?_
  refine lv_if_ne (tgt := 19) hx hb d_Model_asked_10 (by decide) (fun c_2 => ?_) (fun c_2 => ?_)
  · replace hm := if_f c_2 hm
    exact lb_Model_asked_19 d G l dC dI cI cJ cB adK adV adA h v n HG hx hb hml hown hts hK hE hA hr hlocks _ _ _ _ _ _ _ hm _ _ _ hP hD hS (lv_sub hl [1, 2, 3, 0] rfl)
  · replace hm := if_t c_2 hm
    refine lv_aload_n hx hb d_Model_asked_13 rfl (lv_at hl 1 rfl) ?_
    refine lv_iload hx hb d_Model_asked_14 (lv_at hl 0 rfl) ?_
    refine va_put (D := (dC, dI)) (ci := 12) (v := .int x_1) (ty := .int) (C := R_Model) (T := F_Model) (N := 127) hx hb htt iw_Model t_Model t_Model_ok n_Model hown hK hP hD hS 0 yo_12 rfl 104 (Nat.le_of_ble_eq_true rfl) (htt _ lk_Model_544) (fun _ h9 => h9) rfl (by decide +kernel) rfl rfl yl_104 d_Model_asked_16 (fun H locs hP hD hS => ?_)
    obtain ⟨i_3, ei_3⟩ : ∃ y9 : Nat → Int32, y9 = upd i 104 x_1 := ⟨_, rfl⟩
    replace hm := ob1_at ei_3 hm
    obtain ⟨hP, hD⟩ := yw_104 ei_3 hP hD
    exact lb_Model_asked_19 d G l dC dI cI cJ cB adK adV adA h v n HG hx hb hml hown hts hK hE hA hr hlocks _ _ _ _ _ _ _ hm _ _ _ hP hD hS (lv_sub hl [1, 2, 3, 0] rfl)

def m_Model_caught_b164 (n : Nat) (G : GB) (i : Nat → Int32) (j : Nat → Int64) (a : Nat → Nat → Int32) (b : Nat → Nat → Int64) (v5 : Int32) (v6 : Int32) (v7 : Int32) (v8 : Int32) (v9 : Int32) (v10 : Int32) (v11 : Int32) (v12 : Int32) (v13 : Int64) (v15 : Int32) : Option ((Nat → Int32) × (Nat → Int64) × (Nat → Nat → Int32) × (Nat → Nat → Int64) × Int64) := if v15 = ((0 : Int32)) then some (i, j, a, b, v13) else ob1 (upd i 102 0 : Nat → Int32) (fun i_2 => ob1 (upd i_2 98 v5 : Nat → Int32) (fun i_3 => ob1 (upd i_3 97 v6 : Nat → Int32) (fun i_4 => ob1 (upd i_4 99 v7 : Nat → Int32) (fun i_5 => ob1 (upd i_5 116 v8 : Nat → Int32) (fun i_6 => ob1 (upd i_6 117 v9 : Nat → Int32) (fun i_7 => ob1 (upd i_7 107 v10 : Nat → Int32) (fun i_8 => ob1 (upd i_8 105 v11 : Nat → Int32) (fun i_9 => ob1 (upd i_9 106 v12 : Nat → Int32) (fun i_10 => some (i_10, j, a, b, 3))))))))))
set_option maxHeartbeats 4000000 in
set_option maxRecDepth 100000 in
theorem lb_Model_caught_164 (d : Nat) (G : GB) (l : Launch) (dC : Nat → ClassId) (dI : Nat → Nat → Nat) (cI cJ cB : ClassId) (adK adV adA : Nat → Nat) (h : Nat) (v : Nat → Nat) (n : Nat) (HG : GH l dC dI cI cJ cB adK adV adA h v n G d) {p : Program} {e : Env} {s : State} {m : MethodId} {args : Array Value} {below : List Frame} {meth : Method} {c : Code} {A : Nat → Prop} (hx : p.tables.exec = Jvm.exec) (hb : c.code = b_Model_caught) (hml : c.maxLocals = 16) (hown : s.vm.findClass R_Model = some m.cls) (hts : ∀ w ∈ w_Model_caught, w.before args s = true) (hK : va_K (dC, dI) classes [(cI, .int), (cJ, .long), (cB, .byte)] s) (hE : tw_E adK adV adA A s s.heap) (hA : ∀ q : Nat, s.heap.size ≤ q → A q) (hr : meth.sig.returnType = (some .long)) (hlocks : meth.locks = false) {i2 : Nat → Int32} {j2 : Nat → Int64} {a2 : Nat → Nat → Int32} {b2 : Nat → Nat → Int64} {r2 : Int64} (i : Nat → Int32) (j : Nat → Int64) (a : Nat → Nat → Int32) (b : Nat → Nat → Int64) (v5 : Int32) (v6 : Int32) (v7 : Int32) (v8 : Int32) (v9 : Int32) (v10 : Int32) (v11 : Int32) (v12 : Int32) (v13 : Int64) (v15 : Int32) (hm : m_Model_caught_b164 n G i j a b v5 v6 v7 v8 v9 v10 v11 v12 v13 v15 = some (i2, j2, a2, b2, r2)) : ∀ (H : Heap) (locs : List Loc) (ls : Array Slot), va_P (dC, dI) classes (MW cI cJ cB h v i j a b) H → va_D A (MW cI cJ cB h v i j a b) → va_S A s.heap H locs → lv_has ls 16 [(0, .ref h), (5, .int v5), (6, .int v6), (7, .int v7), (8, .int v8), (9, .int v9), (10, .int v10), (11, .int v11), (12, .int v12), (13, .long v13), (15, .int v15)] → W p l e (gR (d + 1)) s m args below meth c H locs 0 0 (MQ below (va_Ql (xR r2) (yB dC dI cI cJ cB h v i2 j2 a2 b2 A) A) args s 0 0 A) (F0 m 164 ls []) := by
  have htt : ∀ w ∈ tw_T, w.before _ s = true := fun w h => hts w (List.mem_cons_of_mem _ h)
  intro H locs ls hP hD hS hl
  rw [m_Model_caught_b164] at hm
  refine lv_iload hx hb d_Model_caught_164 (lv_at hl 10 rfl) ?_
  refine lv_if_eq (tgt := 226) hx hb d_Model_caught_166 (by decide) (fun c_1 => ?_) (fun c_1 => ?_)
  · replace hm := if_t c_1 hm
    refine lv_lload hx hb d_Model_caught_226 (lv_at hl 9 rfl) ?_
    obtain ⟨e1i, e1j, e1a, e1b, e3⟩ := re4m hm
    obtain ⟨hP, hD⟩ := y_eq e1i e1j e1a e1b hP hD
    exact W.lret hx hb hr (fun t9 ht hW => ⟨⟨_, (), rfl, e3.symm, by rw [ht]; exact hP, hD⟩, hS.F ht⟩) hS.2.2 d_Model_caught_228
  · replace hm := if_f c_1 hm
    refine lv_aload_n hx hb d_Model_caught_169 rfl (lv_at hl 0 rfl) ?_
    refine lv_iconst (v := 0) hx hb d_Model_caught_170 (by decide) ?_
    refine va_put (D := (dC, dI)) (ci := 12) (v := .int 0) (ty := .int) (C := R_Model) (T := F_Model) (N := 127) hx hb htt iw_Model t_Model t_Model_ok n_Model hown hK hP hD hS 0 yo_12 rfl 102 (Nat.le_of_ble_eq_true rfl) (htt _ lk_Model_559) (fun _ h9 => h9) rfl (by decide +kernel) rfl rfl yl_102 d_Model_caught_171 (fun H locs hP hD hS => ?_)
    obtain ⟨i_2, ei_2⟩ : ∃ y9 : Nat → Int32, y9 = upd i 102 0 := ⟨_, rfl⟩
    replace hm := ob1_at ei_2 hm
    obtain ⟨hP, hD⟩ := yw_102 ei_2 hP hD
    refine lv_aload_n hx hb d_Model_caught_174 rfl (lv_at hl 0 rfl) ?_
    refine lv_iload hx hb d_Model_caught_175 (lv_at hl 1 rfl) ?_
    refine va_put (D := (dC, dI)) (ci := 12) (v := .int v5) (ty := .int) (C := R_Model) (T := F_Model) (N := 127) hx hb htt iw_Model t_Model t_Model_ok n_Model hown hK hP hD hS 0 yo_12 rfl 98 (Nat.le_of_ble_eq_true rfl) (htt _ lk_Model_535) (fun _ h9 => h9) rfl (by decide +kernel) rfl rfl yl_98 d_Model_caught_177 (fun H locs hP hD hS => ?_)
    obtain ⟨i_3, ei_3⟩ : ∃ y9 : Nat → Int32, y9 = upd i_2 98 v5 := ⟨_, rfl⟩
    replace hm := ob1_at ei_3 hm
    obtain ⟨hP, hD⟩ := yw_98 ei_3 hP hD
    refine lv_aload_n hx hb d_Model_caught_180 rfl (lv_at hl 0 rfl) ?_
    refine lv_iload hx hb d_Model_caught_181 (lv_at hl 2 rfl) ?_
    refine va_put (D := (dC, dI)) (ci := 12) (v := .int v6) (ty := .int) (C := R_Model) (T := F_Model) (N := 127) hx hb htt iw_Model t_Model t_Model_ok n_Model hown hK hP hD hS 0 yo_12 rfl 97 (Nat.le_of_ble_eq_true rfl) (htt _ lk_Model_532) (fun _ h9 => h9) rfl (by decide +kernel) rfl rfl yl_97 d_Model_caught_183 (fun H locs hP hD hS => ?_)
    obtain ⟨i_4, ei_4⟩ : ∃ y9 : Nat → Int32, y9 = upd i_3 97 v6 := ⟨_, rfl⟩
    replace hm := ob1_at ei_4 hm
    obtain ⟨hP, hD⟩ := yw_97 ei_4 hP hD
    refine lv_aload_n hx hb d_Model_caught_186 rfl (lv_at hl 0 rfl) ?_
    refine lv_iload hx hb d_Model_caught_187 (lv_at hl 3 rfl) ?_
    refine va_put (D := (dC, dI)) (ci := 12) (v := .int v7) (ty := .int) (C := R_Model) (T := F_Model) (N := 127) hx hb htt iw_Model t_Model t_Model_ok n_Model hown hK hP hD hS 0 yo_12 rfl 99 (Nat.le_of_ble_eq_true rfl) (htt _ lk_Model_538) (fun _ h9 => h9) rfl (by decide +kernel) rfl rfl yl_99 d_Model_caught_189 (fun H locs hP hD hS => ?_)
    obtain ⟨i_5, ei_5⟩ : ∃ y9 : Nat → Int32, y9 = upd i_4 99 v7 := ⟨_, rfl⟩
    replace hm := ob1_at ei_5 hm
    obtain ⟨hP, hD⟩ := yw_99 ei_5 hP hD
    refine lv_aload_n hx hb d_Model_caught_192 rfl (lv_at hl 0 rfl) ?_
    refine lv_iload hx hb d_Model_caught_193 (lv_at hl 4 rfl) ?_
    refine va_put (D := (dC, dI)) (ci := 12) (v := .int v8) (ty := .int) (C := R_Model) (T := F_Model) (N := 127) hx hb htt iw_Model t_Model t_Model_ok n_Model hown hK hP hD hS 0 yo_12 rfl 116 (Nat.le_of_ble_eq_true rfl) (htt _ lk_Model_565) (fun _ h9 => h9) rfl (by decide +kernel) rfl rfl yl_116 d_Model_caught_195 (fun H locs hP hD hS => ?_)
    obtain ⟨i_6, ei_6⟩ : ∃ y9 : Nat → Int32, y9 = upd i_5 116 v8 := ⟨_, rfl⟩
    replace hm := ob1_at ei_6 hm
    obtain ⟨hP, hD⟩ := yw_116 ei_6 hP hD
    refine lv_aload_n hx hb d_Model_caught_198 rfl (lv_at hl 0 rfl) ?_
    refine lv_iload hx hb d_Model_caught_199 (lv_at hl 5 rfl) ?_
    refine va_put (D := (dC, dI)) (ci := 12) (v := .int v9) (ty := .int) (C := R_Model) (T := F_Model) (N := 127) hx hb htt iw_Model t_Model t_Model_ok n_Model hown hK hP hD hS 0 yo_12 rfl 117 (Nat.le_of_ble_eq_true rfl) (htt _ lk_Model_568) (fun _ h9 => h9) rfl (by decide +kernel) rfl rfl yl_117 d_Model_caught_201 (fun H locs hP hD hS => ?_)
    obtain ⟨i_7, ei_7⟩ : ∃ y9 : Nat → Int32, y9 = upd i_6 117 v9 := ⟨_, rfl⟩
    replace hm := ob1_at ei_7 hm
    obtain ⟨hP, hD⟩ := yw_117 ei_7 hP hD
    refine lv_aload_n hx hb d_Model_caught_204 rfl (lv_at hl 0 rfl) ?_
    refine lv_iload hx hb d_Model_caught_205 (lv_at hl 6 rfl) ?_
    refine va_put (D := (dC, dI)) (ci := 12) (v := .int v10) (ty := .int) (C := R_Model) (T := F_Model) (N := 127) hx hb htt iw_Model t_Model t_Model_ok n_Model hown hK hP hD hS 0 yo_12 rfl 107 (Nat.le_of_ble_eq_true rfl) (htt _ lk_Model_562) (fun _ h9 => h9) rfl (by decide +kernel) rfl rfl yl_107 d_Model_caught_207 (fun H locs hP hD hS => ?_)
    obtain ⟨i_8, ei_8⟩ : ∃ y9 : Nat → Int32, y9 = upd i_7 107 v10 := ⟨_, rfl⟩
    replace hm := ob1_at ei_8 hm
    obtain ⟨hP, hD⟩ := yw_107 ei_8 hP hD
    refine lv_aload_n hx hb d_Model_caught_210 rfl (lv_at hl 0 rfl) ?_
    refine lv_iload hx hb d_Model_caught_211 (lv_at hl 7 rfl) ?_
    refine va_put (D := (dC, dI)) (ci := 12) (v := .int v11) (ty := .int) (C := R_Model) (T := F_Model) (N := 127) hx hb htt iw_Model t_Model t_Model_ok n_Model hown hK hP hD hS 0 yo_12 rfl 105 (Nat.le_of_ble_eq_true rfl) (htt _ lk_Model_587) (fun _ h9 => h9) rfl (by decide +kernel) rfl rfl yl_105 d_Model_caught_213 (fun H locs hP hD hS => ?_)
    obtain ⟨i_9, ei_9⟩ : ∃ y9 : Nat → Int32, y9 = upd i_8 105 v11 := ⟨_, rfl⟩
    replace hm := ob1_at ei_9 hm
    obtain ⟨hP, hD⟩ := yw_105 ei_9 hP hD
    refine lv_aload_n hx hb d_Model_caught_216 rfl (lv_at hl 0 rfl) ?_
    refine lv_iload hx hb d_Model_caught_217 (lv_at hl 8 rfl) ?_
    refine va_put (D := (dC, dI)) (ci := 12) (v := .int v12) (ty := .int) (C := R_Model) (T := F_Model) (N := 127) hx hb htt iw_Model t_Model t_Model_ok n_Model hown hK hP hD hS 0 yo_12 rfl 106 (Nat.le_of_ble_eq_true rfl) (htt _ lk_Model_590) (fun _ h9 => h9) rfl (by decide +kernel) rfl rfl yl_106 d_Model_caught_219 (fun H locs hP hD hS => ?_)
    obtain ⟨i_10, ei_10⟩ : ∃ y9 : Nat → Int32, y9 = upd i_9 106 v12 := ⟨_, rfl⟩
    replace hm := ob1_at ei_10 hm
    obtain ⟨hP, hD⟩ := yw_106 ei_10 hP hD
    refine lv_ldc2 (v := 3) hx hb hown (htt _ lk_Model_7) d_Model_caught_222 ?_
    obtain ⟨e1i, e1j, e1a, e1b, e3⟩ := re4m hm
    obtain ⟨hP, hD⟩ := y_eq e1i e1j e1a e1b hP hD
    exact W.lret hx hb hr (fun t9 ht hW => ⟨⟨_, (), rfl, e3.symm, by rw [ht]; exact hP, hD⟩, hS.F ht⟩) hS.2.2 d_Model_caught_225
def m_Model_caught_b129 (n : Nat) (G : GB) (i : Nat → Int32) (j : Nat → Int64) (a : Nat → Nat → Int32) (b : Nat → Nat → Int64) (v1 : Int64) (v5 : Int32) (v6 : Int32) (v7 : Int32) (v8 : Int32) (v9 : Int32) (v10 : Int32) (v11 : Int32) (v12 : Int32) (v13 : Int64) (s0 : Int32) : Option ((Nat → Int32) × (Nat → Int64) × (Nat → Nat → Int32) × (Nat → Nat → Int64) × Int64) := if ((i 102)) = ((2 : Int32)) then ob0 (m_Model_what n v1) (fun r_3 => ob0 (m_Model_isText n i j a b r_3 (14 : Nat)) (fun r_5 => if r_5 = ((0 : Int32)) then m_Model_caught_b164 n G i j a b v5 v6 v7 v8 v9 v10 v11 v12 v13 s0 else ob1 (i 126 : Int32) (fun x_7 => ob1 (upd i 95 x_7 : Nat → Int32) (fun i_8 => m_Model_caught_b164 n G i_8 j a b v5 v6 v7 v8 v9 v10 v11 v12 v13 (1 : Int32))))) else m_Model_caught_b164 n G i j a b v5 v6 v7 v8 v9 v10 v11 v12 v13 s0
set_option maxHeartbeats 4000000 in
set_option maxRecDepth 100000 in
theorem lb_Model_caught_129 (d : Nat) (G : GB) (l : Launch) (dC : Nat → ClassId) (dI : Nat → Nat → Nat) (cI cJ cB : ClassId) (adK adV adA : Nat → Nat) (h : Nat) (v : Nat → Nat) (n : Nat) (HG : GH l dC dI cI cJ cB adK adV adA h v n G d) {p : Program} {e : Env} {s : State} {m : MethodId} {args : Array Value} {below : List Frame} {meth : Method} {c : Code} {A : Nat → Prop} (hx : p.tables.exec = Jvm.exec) (hb : c.code = b_Model_caught) (hml : c.maxLocals = 16) (hown : s.vm.findClass R_Model = some m.cls) (hts : ∀ w ∈ w_Model_caught, w.before args s = true) (hK : va_K (dC, dI) classes [(cI, .int), (cJ, .long), (cB, .byte)] s) (hE : tw_E adK adV adA A s s.heap) (hA : ∀ q : Nat, s.heap.size ≤ q → A q) (hr : meth.sig.returnType = (some .long)) (hlocks : meth.locks = false) {i2 : Nat → Int32} {j2 : Nat → Int64} {a2 : Nat → Nat → Int32} {b2 : Nat → Nat → Int64} {r2 : Int64} (i : Nat → Int32) (j : Nat → Int64) (a : Nat → Nat → Int32) (b : Nat → Nat → Int64) (v1 : Int64) (v5 : Int32) (v6 : Int32) (v7 : Int32) (v8 : Int32) (v9 : Int32) (v10 : Int32) (v11 : Int32) (v12 : Int32) (v13 : Int64) (s0 : Int32) (hm : m_Model_caught_b129 n G i j a b v1 v5 v6 v7 v8 v9 v10 v11 v12 v13 s0 = some (i2, j2, a2, b2, r2)) : ∀ (H : Heap) (locs : List Loc) (ls : Array Slot), va_P (dC, dI) classes (MW cI cJ cB h v i j a b) H → va_D A (MW cI cJ cB h v i j a b) → va_S A s.heap H locs → lv_has ls 16 [(0, .ref h), (1, .long v1), (5, .int v5), (6, .int v6), (7, .int v7), (8, .int v8), (9, .int v9), (10, .int v10), (11, .int v11), (12, .int v12), (13, .long v13)] → W p l e (gR (d + 1)) s m args below meth c H locs 0 0 (MQ below (va_Ql (xR r2) (yB dC dI cI cJ cB h v i2 j2 a2 b2 A) A) args s 0 0 A) (F0 m 129 ls [.int s0]) := by
  have htt : ∀ w ∈ tw_T, w.before _ s = true := fun w h => hts w (List.mem_cons_of_mem _ h)
  intro H locs ls hP hD hS hl
  rw [m_Model_caught_b129] at hm
  refine lv_istore (lv' := [(15, .int s0), (0, .ref h), (1, .long v1), (5, .int v5), (6, .int v6), (7, .int v7), (8, .int v8), (9, .int v9), (10, .int v10), (11, .int v11), (12, .int v12), (13, .long v13)]) hx hb d_Model_caught_129 hl (by decide) rfl (fun ls hl => ?_)
  refine lv_aload_n hx hb d_Model_caught_131 rfl (lv_at hl 1 rfl) ?_
  refine va_get (D := (dC, dI)) (ci := 12) (v := .int (i 102)) (C := R_Model) (T := F_Model) (N := 127) hx hb htt iw_Model hown hK hP 0 yo_12 rfl 102 (Nat.le_of_ble_eq_true rfl) (htt _ lk_Model_559) (fun _ h9 => h9) yg_102 d_Model_caught_132 ?_
  refine lv_iconst (v := 2) hx hb d_Model_caught_135 (by decide) ?_
  refine lv_icmp_ne (tgt := 164) hx hb d_Model_caught_136 (by decide) (fun c_1 => ?_) (fun c_1 => ?_)
  · replace hm := if_f c_1 hm
    exact lb_Model_caught_164 d G l dC dI cI cJ cB adK adV adA h v n HG hx hb hml hown hts hK hE hA hr hlocks _ _ _ _ _ _ _ _ _ _ _ _ _ _ hm _ _ _ hP hD hS (lv_sub hl [1, 3, 4, 5, 6, 7, 8, 9, 10, 11, 0] rfl)
  · replace hm := if_t c_1 hm
    refine lv_aload_n hx hb d_Model_caught_139 rfl (lv_at hl 1 rfl) ?_
    refine lv_lload_n hx hb d_Model_caught_140 rfl (lv_at hl 2 rfl) ?_
    obtain ⟨r_3, h_2, hm⟩ := ob0_some hm
    have hFc := x_free0 hS hA
    refine va_calli (va_runS (As := [.long v1]) (rest := [.ref h]) ⟨hx, hb, hml, hown, hts⟩ (x_Model_what l H.size n h_2) (va_cwS 1 hts (tw_GS tw_cons cw_Model_what lk_Model_64 st_Model_what ini_Model) rfl rfl rfl hd_Model_what (gR_fit (d + 1) (Nat.le_of_ble_eq_true rfl) (Nat.le_of_ble_eq_true rfl))) xpS0 rfl rfl hl.1 rfl (lv_room (Nat.le_of_ble_eq_true rfl)) d_Model_caught_141 ⟨Nat.le_of_ble_eq_true rfl, Nat.le_of_ble_eq_true rfl⟩) hS (fun q _ h => hFc q h) hFc (fun r9 u9 t9 H locs ht hvm e9 hB hz1 hk1 hS => ?_)
    have e9 : r_3 = r9 := e9
    subst e9
    replace hP := x_keep hP hk1
    clear hFc hk1 hz1 hvm hB ht
    refine tw_ldcwS hx hb hown (show vk_R "TurtleWorldModel" 658 _ (adK 14) s from hE.ref 14 (by decide)) d_Model_caught_144 ?_
    obtain ⟨r_5, h_4, hm⟩ := ob0_some hm
    have hFc := x_free0 hS hA
    refine va_calli (va_runV (As := [.int r_3, .ref (adK 14)]) (rest := []) ⟨hx, hb, hml, hown, hts⟩ (x_Model_isText l dC dI cI cJ cB adK adV adA h v H.size n h_4) (cwV 2 hts (tw_GV tw_cons cw_Model_isText lk_Model_473 in_Model_isText sel_Model_isText ini_Model) rfl rfl rfl ⟨rfl, hd_Model_isText⟩ (gR_fit (d + 1) (Nat.le_of_ble_eq_true rfl) (Nat.le_of_ble_eq_true rfl))) (ypVr hK hP hS hE hFc yo_12 rfl) rfl rfl hl.1 rfl (lv_room (Nat.le_of_ble_eq_true rfl)) d_Model_caught_147 ⟨Nat.le_of_ble_eq_true rfl, Nat.le_of_ble_eq_true rfl⟩) hS (fun q _ h => hFc q h) hFc (fun r9 u9 t9 H locs ht hvm e9 hB hz1 hk1 hS => ?_)
    have e9 : r_5 = r9 := e9
    subst e9
    replace hP := x_keep hP hk1
    clear hFc hk1 hz1 hvm hB ht
    refine lv_if_eq (tgt := 164) hx hb d_Model_caught_150 (by decide) (fun c_6 => ?_) (fun c_6 => ?_)
    · replace hm := if_t c_6 hm
      exact lb_Model_caught_164 d G l dC dI cI cJ cB adK adV adA h v n HG hx hb hml hown hts hK hE hA hr hlocks _ _ _ _ _ _ _ _ _ _ _ _ _ _ hm _ _ _ hP hD hS (lv_sub hl [1, 3, 4, 5, 6, 7, 8, 9, 10, 11, 0] rfl)
    · replace hm := if_f c_6 hm
      refine lv_iconst (v := 1) hx hb d_Model_caught_153 (by decide) ?_
      refine lv_istore (lv' := [(15, .int 1), (0, .ref h), (1, .long v1), (5, .int v5), (6, .int v6), (7, .int v7), (8, .int v8), (9, .int v9), (10, .int v10), (11, .int v11), (12, .int v12), (13, .long v13)]) hx hb d_Model_caught_154 hl (by decide) rfl (fun ls hl => ?_)
      refine lv_aload_n hx hb d_Model_caught_156 rfl (lv_at hl 1 rfl) ?_
      refine lv_aload_n hx hb d_Model_caught_157 rfl (lv_at hl 1 rfl) ?_
      refine va_get (D := (dC, dI)) (ci := 12) (v := .int (i 126)) (C := R_Model) (T := F_Model) (N := 127) hx hb htt iw_Model hown hK hP 0 yo_12 rfl 126 (Nat.le_of_ble_eq_true rfl) (htt _ lk_Model_599) (fun _ h9 => h9) yg_126 d_Model_caught_158 ?_
      refine lv_topi (fun x_7 ex_7 => ?_)
      replace hm := ob1_at ex_7 hm
      refine va_put (D := (dC, dI)) (ci := 12) (v := .int x_7) (ty := .int) (C := R_Model) (T := F_Model) (N := 127) hx hb htt iw_Model t_Model t_Model_ok n_Model hown hK hP hD hS 0 yo_12 rfl 95 (Nat.le_of_ble_eq_true rfl) (htt _ lk_Model_553) (fun _ h9 => h9) rfl (by decide +kernel) rfl rfl yl_95 d_Model_caught_161 (fun H locs hP hD hS => ?_)
      obtain ⟨i_8, ei_8⟩ : ∃ y9 : Nat → Int32, y9 = upd i 95 x_7 := ⟨_, rfl⟩
      replace hm := ob1_at ei_8 hm
      obtain ⟨hP, hD⟩ := yw_95 ei_8 hP hD
      exact lb_Model_caught_164 d G l dC dI cI cJ cB adK adV adA h v n HG hx hb hml hown hts hK hE hA hr hlocks _ _ _ _ _ _ _ _ _ _ _ _ _ _ hm _ _ _ hP hD hS (lv_sub hl [1, 3, 4, 5, 6, 7, 8, 9, 10, 11, 0] rfl)
def m_Model_caught_b128 (n : Nat) (G : GB) (i : Nat → Int32) (j : Nat → Int64) (a : Nat → Nat → Int32) (b : Nat → Nat → Int64) (v1 : Int64) (v5 : Int32) (v6 : Int32) (v7 : Int32) (v8 : Int32) (v9 : Int32) (v10 : Int32) (v11 : Int32) (v12 : Int32) (v13 : Int64) : Option ((Nat → Int32) × (Nat → Int64) × (Nat → Nat → Int32) × (Nat → Nat → Int64) × Int64) := m_Model_caught_b129 n G i j a b v1 v5 v6 v7 v8 v9 v10 v11 v12 v13 (0 : Int32)
set_option maxHeartbeats 4000000 in
set_option maxRecDepth 100000 in
theorem lb_Model_caught_128 (d : Nat) (G : GB) (l : Launch) (dC : Nat → ClassId) (dI : Nat → Nat → Nat) (cI cJ cB : ClassId) (adK adV adA : Nat → Nat) (h : Nat) (v : Nat → Nat) (n : Nat) (HG : GH l dC dI cI cJ cB adK adV adA h v n G d) {p : Program} {e : Env} {s : State} {m : MethodId} {args : Array Value} {below : List Frame} {meth : Method} {c : Code} {A : Nat → Prop} (hx : p.tables.exec = Jvm.exec) (hb : c.code = b_Model_caught) (hml : c.maxLocals = 16) (hown : s.vm.findClass R_Model = some m.cls) (hts : ∀ w ∈ w_Model_caught, w.before args s = true) (hK : va_K (dC, dI) classes [(cI, .int), (cJ, .long), (cB, .byte)] s) (hE : tw_E adK adV adA A s s.heap) (hA : ∀ q : Nat, s.heap.size ≤ q → A q) (hr : meth.sig.returnType = (some .long)) (hlocks : meth.locks = false) {i2 : Nat → Int32} {j2 : Nat → Int64} {a2 : Nat → Nat → Int32} {b2 : Nat → Nat → Int64} {r2 : Int64} (i : Nat → Int32) (j : Nat → Int64) (a : Nat → Nat → Int32) (b : Nat → Nat → Int64) (v1 : Int64) (v5 : Int32) (v6 : Int32) (v7 : Int32) (v8 : Int32) (v9 : Int32) (v10 : Int32) (v11 : Int32) (v12 : Int32) (v13 : Int64) (hm : m_Model_caught_b128 n G i j a b v1 v5 v6 v7 v8 v9 v10 v11 v12 v13 = some (i2, j2, a2, b2, r2)) : ∀ (H : Heap) (locs : List Loc) (ls : Array Slot), va_P (dC, dI) classes (MW cI cJ cB h v i j a b) H → va_D A (MW cI cJ cB h v i j a b) → va_S A s.heap H locs → lv_has ls 16 [(0, .ref h), (1, .long v1), (5, .int v5), (6, .int v6), (7, .int v7), (8, .int v8), (9, .int v9), (10, .int v10), (11, .int v11), (12, .int v12), (13, .long v13)] → W p l e (gR (d + 1)) s m args below meth c H locs 0 0 (MQ below (va_Ql (xR r2) (yB dC dI cI cJ cB h v i2 j2 a2 b2 A) A) args s 0 0 A) (F0 m 128 ls []) := by
  have htt : ∀ w ∈ tw_T, w.before _ s = true := fun w h => hts w (List.mem_cons_of_mem _ h)
  intro H locs ls hP hD hS hl
  rw [m_Model_caught_b128] at hm
  refine lv_iconst (v := 0) hx hb d_Model_caught_128 (by decide) ?_
  exact lb_Model_caught_129 d G l dC dI cI cJ cB adK adV adA h v n HG hx hb hml hown hts hK hE hA hr hlocks _ _ _ _ _ _ _ _ _ _ _ _ _ _ _ hm _ _ _ hP hD hS (lv_sub hl [0, 1, 2, 3, 4, 5, 6, 7, 8, 9, 10] rfl)
def m_Model_caught (n : Nat) (G : GB) (i : Nat → Int32) (j : Nat → Int64) (a : Nat → Nat → Int32) (b : Nat → Nat → Int64) (v1 : Int64) (v3 : Int64) : Option ((Nat → Int32) × (Nat → Int64) × (Nat → Nat → Int32) × (Nat → Nat → Int64) × Int64) := ob1 (i 98 : Int32) (fun x_1 => ob1 (i 97 : Int32) (fun x_2 => ob1 (i 99 : Int32) (fun x_3 => ob1 (i 116 : Int32) (fun x_4 => ob1 (i 117 : Int32) (fun x_5 => ob1 (i 107 : Int32) (fun x_6 => ob1 (i 105 : Int32) (fun x_7 => ob1 (i 106 : Int32) (fun x_8 => ck ((i 118)) 151 (ob1 (svl b 123 (i 118).toNatClampNeg v1 : Nat → Nat → Int64) (fun b_10 => ob1 ((i 118) + 1 : Int32) (fun x_11 => ob1 (upd i 118 x_11 : Nat → Int32) (fun i_12 => om (G.2.2.1 i_12 j a b_10 v3 (1 : Int32)) (fun i_14 j_15 a_16 b_17 r_18 => if ((i_14 102)) = ((1 : Int32)) then some (i_14, j_15, a_16, b_17, 3) else ob1 ((i_14 118) - 1 : Int32) (fun x_20 => ob1 (upd i_14 118 x_20 : Nat → Int32) (fun i_21 => if ((i_21 102)) = ((3 : Int32)) then ob0 (m_Model_what n (j_15 109)) (fun r_24 => ob0 (m_Model_what n v1) (fun r_26 => ob0 (m_Model_sameWord n i_21 j_15 a_16 b_17 r_24 r_26) (fun r_28 => if r_28 = ((0 : Int32)) then m_Model_caught_b128 n G i_21 j_15 a_16 b_17 v1 x_1 x_2 x_3 x_4 x_5 x_6 x_7 x_8 r_18 else m_Model_caught_b129 n G i_21 j_15 a_16 b_17 v1 x_1 x_2 x_3 x_4 x_5 x_6 x_7 x_8 r_18 (1 : Int32)))) else m_Model_caught_b128 n G i_21 j_15 a_16 b_17 v1 x_1 x_2 x_3 x_4 x_5 x_6 x_7 x_8 r_18)))))))))))))))
set_option maxHeartbeats 4000000 in
set_option maxRecDepth 100000 in
theorem x_Model_caught (d : Nat) (G : GB) (l : Launch) (dC : Nat → ClassId) (dI : Nat → Nat → Nat) (cI cJ cB : ClassId) (adK adV adA : Nat → Nat) (h : Nat) (v : Nat → Nat) (sz : Nat) (n : Nat) (HG : GH l dC dI cI cJ cB adK adV adA h v n G d) {i : Nat → Int32} {j : Nat → Int64} {a : Nat → Nat → Int32} {b : Nat → Nat → Int64} {v1 : Int64} {v3 : Int64} {i2 : Nat → Int32} {j2 : Nat → Int64} {a2 : Nat → Nat → Int32} {b2 : Nat → Nat → Int64} {r2 : Int64} (hm : m_Model_caught n G i j a b v1 v3 = some (i2, j2, a2, b2, r2)) : Met l y_Model_caught w_Model_caught (gR (d + 1)) (va_Pc [.ref h, .long v1, .long v3] (yE dC dI cI cJ cB adK adV adA h v i j a b sz)) (va_Ql (xR r2) (yB dC dI cI cJ cB h v i2 j2 a2 b2 (va_A (MW cI cJ cB h v i j a b) sz)) (va_A (MW cI cJ cB h v i j a b) sz)) 0 0 ((va_A (MW cI cJ cB h v i j a b) sz)) := by
  refine Met.ofW (cc := b_Model_caught) (maxL := 16) (ret := (some .long)) (by decide) rfl ?_
  intro p e s m args below meth c s₁ B hml hv
  obtain ⟨rfl, hsz, hP, hK, hE, hD0⟩ := hv
  have hx := B.exec
  have hb := B.bytes
  have hr := B.returns
  have hts := atoms_spec (ws := w_Model_caught) B.pre
  have htt : ∀ w ∈ tw_T, w.before _ s = true := fun w h => hts w (List.mem_cons_of_mem _ h)
  have hown : s.vm.findClass R_Model = some m.cls := findClass_of_methodNamed B.named
  have hlocks := B.notSynchronized
  subst hsz
  have hD := hD0.self (sz := s.heap.size)
  generalize hAe : (va_A (MW cI cJ cB h v i j a b) s.heap.size) = A at hD hE ⊢
  have hA : ∀ q : Nat, s.heap.size ≤ q → A q := fun q h => by rw [← hAe]; exact Or.inr h
  have hS : va_S A s.heap s.heap [] := va_S.rf
  have hl := lv_entry ([.ref h, .long v1, .long v3]) (n := 16) (Nat.le_of_ble_eq_true rfl)
  rw [lg_entry_eq]
  generalize (lg_sl ([.ref h, .long v1, .long v3]) ++ List.replicate (16 - (lg_sl ([.ref h, .long v1, .long v3])).length) Slot.unset).toArray = ls at hl ⊢
  have hl : lv_has ls 16 [(0, .ref h), (1, .long v1), (3, .long v3)] := hl
  rw [m_Model_caught] at hm
  refine lv_aload_n hx hb d_Model_caught_0 rfl (lv_at hl 0 rfl) ?_
  refine va_get (D := (dC, dI)) (ci := 12) (v := .int (i 98)) (C := R_Model) (T := F_Model) (N := 127) hx hb htt iw_Model hown hK hP 0 yo_12 rfl 98 (Nat.le_of_ble_eq_true rfl) (htt _ lk_Model_535) (fun _ h9 => h9) yg_98 d_Model_caught_1 ?_
  refine lv_topi (fun x_1 ex_1 => ?_)
  replace hm := ob1_at ex_1 hm
  refine lv_istore (lv' := [(5, .int x_1), (0, .ref h), (1, .long v1), (3, .long v3)]) hx hb d_Model_caught_4 hl (by decide) rfl (fun ls hl => ?_)
  refine lv_aload_n hx hb d_Model_caught_6 rfl (lv_at hl 1 rfl) ?_
  refine va_get (D := (dC, dI)) (ci := 12) (v := .int (i 97)) (C := R_Model) (T := F_Model) (N := 127) hx hb htt iw_Model hown hK hP 0 yo_12 rfl 97 (Nat.le_of_ble_eq_true rfl) (htt _ lk_Model_532) (fun _ h9 => h9) yg_97 d_Model_caught_7 ?_
  refine lv_topi (fun x_2 ex_2 => ?_)
  replace hm := ob1_at ex_2 hm
  refine lv_istore (lv' := [(6, .int x_2), (5, .int x_1), (0, .ref h), (1, .long v1), (3, .long v3)]) hx hb d_Model_caught_10 hl (by decide) rfl (fun ls hl => ?_)
  refine lv_aload_n hx hb d_Model_caught_12 rfl (lv_at hl 2 rfl) ?_
  refine va_get (D := (dC, dI)) (ci := 12) (v := .int (i 99)) (C := R_Model) (T := F_Model) (N := 127) hx hb htt iw_Model hown hK hP 0 yo_12 rfl 99 (Nat.le_of_ble_eq_true rfl) (htt _ lk_Model_538) (fun _ h9 => h9) yg_99 d_Model_caught_13 ?_
  refine lv_topi (fun x_3 ex_3 => ?_)
  replace hm := ob1_at ex_3 hm
  refine lv_istore (lv' := [(7, .int x_3), (6, .int x_2), (5, .int x_1), (0, .ref h), (1, .long v1), (3, .long v3)]) hx hb d_Model_caught_16 hl (by decide) rfl (fun ls hl => ?_)
  refine lv_aload_n hx hb d_Model_caught_18 rfl (lv_at hl 3 rfl) ?_
  refine va_get (D := (dC, dI)) (ci := 12) (v := .int (i 116)) (C := R_Model) (T := F_Model) (N := 127) hx hb htt iw_Model hown hK hP 0 yo_12 rfl 116 (Nat.le_of_ble_eq_true rfl) (htt _ lk_Model_565) (fun _ h9 => h9) yg_116 d_Model_caught_19 ?_
  refine lv_topi (fun x_4 ex_4 => ?_)
  replace hm := ob1_at ex_4 hm
  refine lv_istore (lv' := [(8, .int x_4), (7, .int x_3), (6, .int x_2), (5, .int x_1), (0, .ref h), (1, .long v1), (3, .long v3)]) hx hb d_Model_caught_22 hl (by decide) rfl (fun ls hl => ?_)
  refine lv_aload_n hx hb d_Model_caught_24 rfl (lv_at hl 4 rfl) ?_
  refine va_get (D := (dC, dI)) (ci := 12) (v := .int (i 117)) (C := R_Model) (T := F_Model) (N := 127) hx hb htt iw_Model hown hK hP 0 yo_12 rfl 117 (Nat.le_of_ble_eq_true rfl) (htt _ lk_Model_568) (fun _ h9 => h9) yg_117 d_Model_caught_25 ?_
  refine lv_topi (fun x_5 ex_5 => ?_)
  replace hm := ob1_at ex_5 hm
  refine lv_istore (lv' := [(9, .int x_5), (8, .int x_4), (7, .int x_3), (6, .int x_2), (5, .int x_1), (0, .ref h), (1, .long v1), (3, .long v3)]) hx hb d_Model_caught_28 hl (by decide) rfl (fun ls hl => ?_)
  refine lv_aload_n hx hb d_Model_caught_30 rfl (lv_at hl 5 rfl) ?_
  refine va_get (D := (dC, dI)) (ci := 12) (v := .int (i 107)) (C := R_Model) (T := F_Model) (N := 127) hx hb htt iw_Model hown hK hP 0 yo_12 rfl 107 (Nat.le_of_ble_eq_true rfl) (htt _ lk_Model_562) (fun _ h9 => h9) yg_107 d_Model_caught_31 ?_
  refine lv_topi (fun x_6 ex_6 => ?_)
  replace hm := ob1_at ex_6 hm
  refine lv_istore (lv' := [(10, .int x_6), (9, .int x_5), (8, .int x_4), (7, .int x_3), (6, .int x_2), (5, .int x_1), (0, .ref h), (1, .long v1), (3, .long v3)]) hx hb d_Model_caught_34 hl (by decide) rfl (fun ls hl => ?_)
  refine lv_aload_n hx hb d_Model_caught_36 rfl (lv_at hl 6 rfl) ?_
  refine va_get (D := (dC, dI)) (ci := 12) (v := .int (i 105)) (C := R_Model) (T := F_Model) (N := 127) hx hb htt iw_Model hown hK hP 0 yo_12 rfl 105 (Nat.le_of_ble_eq_true rfl) (htt _ lk_Model_587) (fun _ h9 => h9) yg_105 d_Model_caught_37 ?_
  refine lv_topi (fun x_7 ex_7 => ?_)
  replace hm := ob1_at ex_7 hm
  refine lv_istore (lv' := [(11, .int x_7), (10, .int x_6), (9, .int x_5), (8, .int x_4), (7, .int x_3), (6, .int x_2), (5, .int x_1), (0, .ref h), (1, .long v1), (3, .long v3)]) hx hb d_Model_caught_40 hl (by decide) rfl (fun ls hl => ?_)
  refine lv_aload_n hx hb d_Model_caught_42 rfl (lv_at hl 7 rfl) ?_
  refine va_get (D := (dC, dI)) (ci := 12) (v := .int (i 106)) (C := R_Model) (T := F_Model) (N := 127) hx hb htt iw_Model hown hK hP 0 yo_12 rfl 106 (Nat.le_of_ble_eq_true rfl) (htt _ lk_Model_590) (fun _ h9 => h9) yg_106 d_Model_caught_43 ?_
  refine lv_topi (fun x_8 ex_8 => ?_)
  replace hm := ob1_at ex_8 hm
  refine lv_istore (lv' := [(12, .int x_8), (11, .int x_7), (10, .int x_6), (9, .int x_5), (8, .int x_4), (7, .int x_3), (6, .int x_2), (5, .int x_1), (0, .ref h), (1, .long v1), (3, .long v3)]) hx hb d_Model_caught_46 hl (by decide) rfl (fun ls hl => ?_)
  refine lv_aload_n hx hb d_Model_caught_48 rfl (lv_at hl 8 rfl) ?_
  refine va_get (D := (dC, dI)) (ci := 12) (v := .ref ((v 123))) (C := R_Model) (T := F_Model) (N := 127) hx hb htt iw_Model hown hK hP 0 yo_12 rfl 123 (Nat.le_of_ble_eq_true rfl) (htt _ lk_Model_328) (fun _ h9 => h9) yg_123 d_Model_caught_49 ?_
  refine lv_aload_n hx hb d_Model_caught_52 rfl (lv_at hl 8 rfl) ?_
  refine va_get (D := (dC, dI)) (ci := 12) (v := .int (i 118)) (C := R_Model) (T := F_Model) (N := 127) hx hb htt iw_Model hown hK hP 0 yo_12 rfl 118 (Nat.le_of_ble_eq_true rfl) (htt _ lk_Model_571) (fun _ h9 => h9) yg_118 d_Model_caught_53 ?_
  refine lv_lload_n hx hb d_Model_caught_56 rfl (lv_at hl 9 rfl) ?_
  obtain ⟨h_9, hm⟩ := ck_some hm
  refine va_last hx hb hK hP hD hS 70 1 ya_123 rfl h_9 d_Model_caught_57 (fun H locs hP hD hS => ?_)
  obtain ⟨b_10, eb_10⟩ : ∃ y9 : Nat → Nat → Int64, y9 = svl b 123 (i 118).toNatClampNeg v1 := ⟨_, rfl⟩
  replace hm := ob1_at eb_10 hm
  obtain ⟨hP, hD⟩ := yv_123 eb_10 hP hD
  refine lv_aload_n hx hb d_Model_caught_58 rfl (lv_at hl 8 rfl) ?_
  refine lv_dup hx hb d_Model_caught_59 rfl ?_
  refine va_get (D := (dC, dI)) (ci := 12) (v := .int (i 118)) (C := R_Model) (T := F_Model) (N := 127) hx hb htt iw_Model hown hK hP 0 yo_12 rfl 118 (Nat.le_of_ble_eq_true rfl) (htt _ lk_Model_571) (fun _ h9 => h9) yg_118 d_Model_caught_60 ?_
  refine lv_iconst (v := 1) hx hb d_Model_caught_63 (by decide) ?_
  refine lv_iadd hx hb d_Model_caught_64 ?_
  refine lv_topi (fun x_11 ex_11 => ?_)
  replace hm := ob1_at ex_11 hm
  refine va_put (D := (dC, dI)) (ci := 12) (v := .int x_11) (ty := .int) (C := R_Model) (T := F_Model) (N := 127) hx hb htt iw_Model t_Model t_Model_ok n_Model hown hK hP hD hS 0 yo_12 rfl 118 (Nat.le_of_ble_eq_true rfl) (htt _ lk_Model_571) (fun _ h9 => h9) rfl (by decide +kernel) rfl rfl yl_118 d_Model_caught_65 (fun H locs hP hD hS => ?_)
  obtain ⟨i_12, ei_12⟩ : ∃ y9 : Nat → Int32, y9 = upd i 118 x_11 := ⟨_, rfl⟩
  replace hm := ob1_at ei_12 hm
  obtain ⟨hP, hD⟩ := yw_118 ei_12 hP hD
  refine lv_aload_n hx hb d_Model_caught_68 rfl (lv_at hl 8 rfl) ?_
  refine lv_lload_n hx hb d_Model_caught_69 rfl (lv_at hl 10 rfl) ?_
  refine lv_iconst (v := 1) hx hb d_Model_caught_70 (by decide) ?_
  obtain ⟨i_14, j_15, a_16, b_17, r_18, h_13, hm⟩ := om_some hm
  have hFc := x_free hD hS hA
  refine va_calll (va_runV (As := [.long v3, .int 1]) (rest := []) ⟨hx, hb, hml, hown, hts⟩ (HG.2.2.1 H.size _ _ _ _ _ _ _ _ _ _ _ h_13) (cwV 2 hts (tw_GV tw_cons cw_Model_ran lk_Model_649 in_Model_ran sel_Model_ran ini_Model) rfl rfl rfl ⟨rfl, hd_Model_ran⟩ (gR_up (by decide))) (ypV hK hP hD hS hE hFc yo_12 rfl) rfl rfl hl.1 rfl (lv_room (Nat.le_of_ble_eq_true rfl)) d_Model_caught_71 ⟨Nat.le_of_ble_eq_true rfl, Nat.le_of_ble_eq_true rfl⟩) hS (fun q _ h => hFc q h) hFc (fun r9 u9 t9 H locs ht hvm e9 hB hz1 hk1 hS => ?_)
  have e9 : r_18 = r9 := e9
  subst e9
  obtain ⟨hP, hD⟩ := y_aft hB ht hFc
  clear hFc hk1 hz1 hvm hB ht
  refine lv_lstore (lv' := [(13, .long r_18), (12, .int x_8), (11, .int x_7), (10, .int x_6), (9, .int x_5), (8, .int x_4), (7, .int x_3), (6, .int x_2), (5, .int x_1), (0, .ref h), (1, .long v1), (3, .long v3)]) hx hb d_Model_caught_74 hl (by decide) rfl (fun ls hl => ?_)
  refine lv_aload_n hx hb d_Model_caught_76 rfl (lv_at hl 9 rfl) ?_
  refine va_get (D := (dC, dI)) (ci := 12) (v := .int (i_14 102)) (C := R_Model) (T := F_Model) (N := 127) hx hb htt iw_Model hown hK hP 0 yo_12 rfl 102 (Nat.le_of_ble_eq_true rfl) (htt _ lk_Model_559) (fun _ h9 => h9) yg_102 d_Model_caught_77 ?_
  refine lv_iconst (v := 1) hx hb d_Model_caught_80 (by decide) ?_
  refine lv_icmp_ne (tgt := 88) hx hb d_Model_caught_81 (by decide) (fun c_19 => ?_) (fun c_19 => ?_)
  · replace hm := if_f c_19 hm
    refine lv_aload_n hx hb d_Model_caught_88 rfl (lv_at hl 9 rfl) ?_
    refine lv_dup hx hb d_Model_caught_89 rfl ?_
    refine va_get (D := (dC, dI)) (ci := 12) (v := .int (i_14 118)) (C := R_Model) (T := F_Model) (N := 127) hx hb htt iw_Model hown hK hP 0 yo_12 rfl 118 (Nat.le_of_ble_eq_true rfl) (htt _ lk_Model_571) (fun _ h9 => h9) yg_118 d_Model_caught_90 ?_
    refine lv_iconst (v := 1) hx hb d_Model_caught_93 (by decide) ?_
    refine lv_isub hx hb d_Model_caught_94 ?_
    refine lv_topi (fun x_20 ex_20 => ?_)
    replace hm := ob1_at ex_20 hm
    refine va_put (D := (dC, dI)) (ci := 12) (v := .int x_20) (ty := .int) (C := R_Model) (T := F_Model) (N := 127) hx hb htt iw_Model t_Model t_Model_ok n_Model hown hK hP hD hS 0 yo_12 rfl 118 (Nat.le_of_ble_eq_true rfl) (htt _ lk_Model_571) (fun _ h9 => h9) rfl (by decide +kernel) rfl rfl yl_118 d_Model_caught_95 (fun H locs hP hD hS => ?_)
    obtain ⟨i_21, ei_21⟩ : ∃ y9 : Nat → Int32, y9 = upd i_14 118 x_20 := ⟨_, rfl⟩
    replace hm := ob1_at ei_21 hm
    obtain ⟨hP, hD⟩ := yw_118 ei_21 hP hD
    refine lv_aload_n hx hb d_Model_caught_98 rfl (lv_at hl 9 rfl) ?_
    refine va_get (D := (dC, dI)) (ci := 12) (v := .int (i_21 102)) (C := R_Model) (T := F_Model) (N := 127) hx hb htt iw_Model hown hK hP 0 yo_12 rfl 102 (Nat.le_of_ble_eq_true rfl) (htt _ lk_Model_559) (fun _ h9 => h9) yg_102 d_Model_caught_99 ?_
    refine lv_iconst (v := 3) hx hb d_Model_caught_102 (by decide) ?_
    refine lv_icmp_ne (tgt := 128) hx hb d_Model_caught_103 (by decide) (fun c_22 => ?_) (fun c_22 => ?_)
    · replace hm := if_f c_22 hm
      exact lb_Model_caught_128 d G l dC dI cI cJ cB adK adV adA h v n HG hx hb hml hown hts hK hE hA hr hlocks _ _ _ _ _ _ _ _ _ _ _ _ _ _ hm _ _ _ hP hD hS (lv_sub hl [9, 10, 8, 7, 6, 5, 4, 3, 2, 1, 0] rfl)
    · replace hm := if_t c_22 hm
      refine lv_aload_n hx hb d_Model_caught_106 rfl (lv_at hl 9 rfl) ?_
      refine lv_aload_n hx hb d_Model_caught_107 rfl (lv_at hl 9 rfl) ?_
      refine va_get (D := (dC, dI)) (ci := 12) (v := .long (j_15 109)) (C := R_Model) (T := F_Model) (N := 127) hx hb htt iw_Model hown hK hP 0 yo_12 rfl 109 (Nat.le_of_ble_eq_true rfl) (htt _ lk_Model_655) (fun _ h9 => h9) yg_109 d_Model_caught_108 ?_
      obtain ⟨r_24, h_23, hm⟩ := ob0_some hm
      have hFc := x_free0 hS hA
      refine va_calli (va_runS (As := [.long (j_15 109)]) (rest := [.ref h]) ⟨hx, hb, hml, hown, hts⟩ (x_Model_what l H.size n h_23) (va_cwS 1 hts (tw_GS tw_cons cw_Model_what lk_Model_64 st_Model_what ini_Model) rfl rfl rfl hd_Model_what (gR_fit (d + 1) (Nat.le_of_ble_eq_true rfl) (Nat.le_of_ble_eq_true rfl))) xpS0 rfl rfl hl.1 rfl (lv_room (Nat.le_of_ble_eq_true rfl)) d_Model_caught_111 ⟨Nat.le_of_ble_eq_true rfl, Nat.le_of_ble_eq_true rfl⟩) hS (fun q _ h => hFc q h) hFc (fun r9 u9 t9 H locs ht hvm e9 hB hz1 hk1 hS => ?_)
      have e9 : r_24 = r9 := e9
      subst e9
      replace hP := x_keep hP hk1
      clear hFc hk1 hz1 hvm hB ht
      refine lv_lload_n hx hb d_Model_caught_114 rfl (lv_at hl 10 rfl) ?_
      obtain ⟨r_26, h_25, hm⟩ := ob0_some hm
      have hFc := x_free0 hS hA
      refine va_calli (va_runS (As := [.long v1]) (rest := [.int r_24, .ref h]) ⟨hx, hb, hml, hown, hts⟩ (x_Model_what l H.size n h_25) (va_cwS 1 hts (tw_GS tw_cons cw_Model_what lk_Model_64 st_Model_what ini_Model) rfl rfl rfl hd_Model_what (gR_fit (d + 1) (Nat.le_of_ble_eq_true rfl) (Nat.le_of_ble_eq_true rfl))) xpS0 rfl rfl hl.1 rfl (lv_room (Nat.le_of_ble_eq_true rfl)) d_Model_caught_115 ⟨Nat.le_of_ble_eq_true rfl, Nat.le_of_ble_eq_true rfl⟩) hS (fun q _ h => hFc q h) hFc (fun r9 u9 t9 H locs ht hvm e9 hB hz1 hk1 hS => ?_)
      have e9 : r_26 = r9 := e9
      subst e9
      replace hP := x_keep hP hk1
      clear hFc hk1 hz1 hvm hB ht
      obtain ⟨r_28, h_27, hm⟩ := ob0_some hm
      have hFc := x_free0 hS hA
      refine va_calli (va_runV (As := [.int r_24, .int r_26]) (rest := []) ⟨hx, hb, hml, hown, hts⟩ (x_Model_sameWord l dC dI cI cJ cB adK adV adA h v H.size n h_27) (cwV 2 hts (tw_GV tw_cons cw_Model_sameWord lk_Model_91 in_Model_sameWord sel_Model_sameWord ini_Model) rfl rfl rfl ⟨rfl, hd_Model_sameWord⟩ (gR_fit (d + 1) (Nat.le_of_ble_eq_true rfl) (Nat.le_of_ble_eq_true rfl))) (ypVr hK hP hS hE hFc yo_12 rfl) rfl rfl hl.1 rfl (lv_room (Nat.le_of_ble_eq_true rfl)) d_Model_caught_118 ⟨Nat.le_of_ble_eq_true rfl, Nat.le_of_ble_eq_true rfl⟩) hS (fun q _ h => hFc q h) hFc (fun r9 u9 t9 H locs ht hvm e9 hB hz1 hk1 hS => ?_)
      have e9 : r_28 = r9 := e9
      subst e9
      replace hP := x_keep hP hk1
      clear hFc hk1 hz1 hvm hB ht
      refine lv_if_eq (tgt := 128) hx hb d_Model_caught_121 (by decide) (fun c_29 => ?_) (fun c_29 => ?_)
      · replace hm := if_t c_29 hm
        exact lb_Model_caught_128 d G l dC dI cI cJ cB adK adV adA h v n HG hx hb hml hown hts hK hE hA hr hlocks _ _ _ _ _ _ _ _ _ _ _ _ _ _ hm _ _ _ hP hD hS (lv_sub hl [9, 10, 8, 7, 6, 5, 4, 3, 2, 1, 0] rfl)
      · replace hm := if_f c_29 hm
        refine lv_iconst (v := 1) hx hb d_Model_caught_124 (by decide) ?_
        refine lv_goto (tgt := 129) hx hb d_Model_caught_125 (by decide) ?_
        exact lb_Model_caught_129 d G l dC dI cI cJ cB adK adV adA h v n HG hx hb hml hown hts hK hE hA hr hlocks _ _ _ _ _ _ _ _ _ _ _ _ _ _ _ hm _ _ _ hP hD hS (lv_sub hl [9, 10, 8, 7, 6, 5, 4, 3, 2, 1, 0] rfl)
  · replace hm := if_t c_19 hm
    refine lv_ldc2 (v := 3) hx hb hown (htt _ lk_Model_7) d_Model_caught_84 ?_
    obtain ⟨e1i, e1j, e1a, e1b, e3⟩ := re4m hm
    obtain ⟨hP, hD⟩ := y_eq e1i e1j e1a e1b hP hD
    exact W.lret hx hb hr (fun t9 ht hW => ⟨⟨_, (), rfl, e3.symm, by rw [ht]; exact hP, hD⟩, hS.F ht⟩) hS.2.2 d_Model_caught_87

def mG (n : Nat) : Nat → GB
  | 0 => (fun _ _ _ _ _ => none, fun _ _ _ _ _ _ _ _ => none, fun _ _ _ _ _ _ => none, fun _ _ _ _ _ _ => none, fun _ _ _ _ _ _ => none, fun _ _ _ _ _ _ _ _ => none, fun _ _ _ _ _ _ => none, fun _ _ _ _ _ _ => none, fun _ _ _ _ _ _ _ => none, fun _ _ _ _ _ _ => none, fun _ _ _ _ _ _ => none)
  | d + 1 => (m_Model_eval n (mG n d), m_Model_called n (mG n d), m_Model_ran n (mG n d), m_Model_runs n (mG n d), m_Model_applied n (mG n d), m_Model_running n (mG n d), m_Model_repeated n (mG n d), m_Model_whiled n (mG n d), m_Model_forEach n (mG n d), m_Model_asked n (mG n d), m_Model_caught n (mG n d))
theorem GH_all (l : Launch) (dC : Nat → ClassId) (dI : Nat → Nat → Nat) (cI cJ cB : ClassId) (adK adV adA : Nat → Nat) (h : Nat) (v : Nat → Nat) (n : Nat) : ∀ d, GH l dC dI cI cJ cB adK adV adA h v n (mG n d) d := by
  intro d
  induction d with
  | zero => exact ⟨fun _ _ _ _ _ _ _ _ _ _ _ hm => absurd hm (by exact fun q => nomatch q), fun _ _ _ _ _ _ _ _ _ _ _ _ _ _ hm => absurd hm (by exact fun q => nomatch q), fun _ _ _ _ _ _ _ _ _ _ _ _ hm => absurd hm (by exact fun q => nomatch q), fun _ _ _ _ _ _ _ _ _ _ _ _ hm => absurd hm (by exact fun q => nomatch q), fun _ _ _ _ _ _ _ _ _ _ _ _ hm => absurd hm (by exact fun q => nomatch q), fun _ _ _ _ _ _ _ _ _ _ _ _ _ _ hm => absurd hm (by exact fun q => nomatch q), fun _ _ _ _ _ _ _ _ _ _ _ _ hm => absurd hm (by exact fun q => nomatch q), fun _ _ _ _ _ _ _ _ _ _ _ _ hm => absurd hm (by exact fun q => nomatch q), fun _ _ _ _ _ _ _ _ _ _ _ _ _ hm => absurd hm (by exact fun q => nomatch q), fun _ _ _ _ _ _ _ _ _ _ _ _ hm => absurd hm (by exact fun q => nomatch q), fun _ _ _ _ _ _ _ _ _ _ _ _ hm => absurd hm (by exact fun q => nomatch q)⟩
  | succ d ih => exact ⟨fun sz _ _ _ _ _ _ _ _ _ _ hm => x_Model_eval d (mG n d) l dC dI cI cJ cB adK adV adA h v sz n ih hm, fun sz _ _ _ _ _ _ _ _ _ _ _ _ _ hm => x_Model_called d (mG n d) l dC dI cI cJ cB adK adV adA h v sz n ih hm, fun sz _ _ _ _ _ _ _ _ _ _ _ hm => x_Model_ran d (mG n d) l dC dI cI cJ cB adK adV adA h v sz n ih hm, fun sz _ _ _ _ _ _ _ _ _ _ _ hm => x_Model_runs d (mG n d) l dC dI cI cJ cB adK adV adA h v sz n ih hm, fun sz _ _ _ _ _ _ _ _ _ _ _ hm => x_Model_applied d (mG n d) l dC dI cI cJ cB adK adV adA h v sz n ih hm, fun sz _ _ _ _ _ _ _ _ _ _ _ _ _ hm => x_Model_running d (mG n d) l dC dI cI cJ cB adK adV adA h v sz n ih hm, fun sz _ _ _ _ _ _ _ _ _ _ _ hm => x_Model_repeated d (mG n d) l dC dI cI cJ cB adK adV adA h v sz n ih hm, fun sz _ _ _ _ _ _ _ _ _ _ _ hm => x_Model_whiled d (mG n d) l dC dI cI cJ cB adK adV adA h v sz n ih hm, fun sz _ _ _ _ _ _ _ _ _ _ _ _ hm => x_Model_forEach d (mG n d) l dC dI cI cJ cB adK adV adA h v sz n ih hm, fun sz _ _ _ _ _ _ _ _ _ _ _ hm => x_Model_asked d (mG n d) l dC dI cI cJ cB adK adV adA h v sz n ih hm, fun sz _ _ _ _ _ _ _ _ _ _ _ hm => x_Model_caught d (mG n d) l dC dI cI cJ cB adK adV adA h v sz n ih hm⟩
