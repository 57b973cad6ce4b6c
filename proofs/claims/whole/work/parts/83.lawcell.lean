theorem d_Law_cell_0 : decode b_Law_cell 0 = .ok (.iload_n 1, 1) := by decide +kernel
theorem d_Law_cell_1 : decode b_Law_cell 1 = .ok (.aload_n 0, 1) := by decide +kernel
theorem d_Law_cell_2 : decode b_Law_cell 2 = .ok (.arraylength, 1) := by decide +kernel
theorem d_Law_cell_3 : decode b_Law_cell 3 = .ok (.if_icmp .ge 9, 3) := by decide +kernel
theorem d_Law_cell_6 : decode b_Law_cell 6 = .ok (.aload_n 0, 1) := by decide +kernel
theorem d_Law_cell_7 : decode b_Law_cell 7 = .ok (.iload_n 1, 1) := by decide +kernel
theorem d_Law_cell_8 : decode b_Law_cell 8 = .ok (.iaload, 1) := by decide +kernel
theorem d_Law_cell_9 : decode b_Law_cell 9 = .ok (.goto 4, 3) := by decide +kernel
theorem d_Law_cell_12 : decode b_Law_cell 12 = .ok (.iconst 0, 1) := by decide +kernel
theorem d_Law_cell_13 : decode b_Law_cell 13 = .ok (.ireturn, 1) := by decide +kernel
def R_law : String := "TurtleWorldLaw"
def lw_Q (_ : Array Value) (s : State) (o : Outcome) (t : State) : Prop := o = .returned (some (.int 1)) ∧ Framed s o t [] 601024 7293000
def lw_Z (below : List Frame) (a : Array Value) (s : State) : State → Prop := fun t => ∃ o, t.status = .running ∧ Ended t below o ∧ lw_Q a s o t
/-- the law's own end, with 1 on the stack, nothing written that was there before, its room as the claim has it -/
theorem lw_ret {p : Program} {l : Launch} {e : Env} {s : State} {m : MethodId} {below : List Frame} {meth : Method} {c : Code} {b : Nat} (hx : p.tables.exec = Jvm.exec) (hb : c.code = code) (hr : meth.sig.returnType = ret) (hlocks : meth.locks = false) {pc : Nat} {H : Heap} {ls : Array Slot} (hdg : decode code pc = .ok (.ireturn, 1)) : W p l e room_1 s m #[Value.ref b] below meth c H [] 601024 7293000 (lw_Z below #[Value.ref b] s) (F0 m pc ls [.int 1]) := by
  intro T hT X
  obtain ⟨fs, hret, hrun, hended, hW, hframe⟩ := X.leave (v := some (.int 1)) (hlocks := hlocks) (fun h => by rw [hr] at h; cases h)
  have hmeth' : T.vm.method? m = some meth := X.method'
  refine ⟨T.setFrames fs, ?_, .returned (some (.int 1)), hrun, hended, rfl, ⟨_, rfl⟩, hW, hframe⟩
  jvm_step X.here [X.here.top, hx, hb, hdg, hmeth', hr, ret, narrow_b1]
  (try refine ⟨rfl, ?_⟩); (try refine ⟨rfl, ?_⟩)
  first | (intro acts; rw [hret _ acts rfl rfl rfl]) | rw [hret _ _ rfl rfl rfl]
  exact Steps.refl _
/-- what holds at the law's entry: the machine, the code, the tables' words (any of lw_tbl by 'hts w (by decide +kernel)'), the script of L ints xs at the cell b, what the Statement gives of the start (any of its parts by flat_of_before) -/
def lw_At (p : Program) (s : State) (m : MethodId) (meth : Method) (c : Code) (b L : Nat) (xs : Nat → Int32) : Prop :=
  p.tables.exec = Jvm.exec ∧ c.code = code ∧ meth.sig.returnType = ret ∧ c.maxLocals = 7 ∧ s.vm.findClass R_law = some m.cls ∧ (∀ w ∈ lw_tbl, w.before #[Value.ref b] s = true) ∧ va_X b L xs s s.heap ∧ b < s.heap.size ∧ meth.locks = false ∧ (Jvm.Cond.and given_1 narrow_1).before #[Value.ref b] s = true
/-- the script, that no cell of ours is -/
def tw_scr (b L : Nat) (xs : Nat → Int32) (A : Nat → Prop) (U : State) (H : Heap) : Prop := va_X b L xs U H ∧ b < H.size ∧ ¬ A b ∧ L < 2 ^ 31
theorem tw_scr.pass {b L : Nat} {xs : Nat → Int32} {A B : Nat → Prop} {s U : State} {H : Heap} {locs : List Loc} (h : tw_scr b L xs A s s.heap) (hS : va_S A s.heap H locs) (hF : ∀ q, B q → A q) (hW : s.WarmedH U.vm) (hU : U.heap = H) : tw_scr b L xs B U U.heap := by
  subst hU
  exact ⟨(h.1.kept (hS.2.1 b h.2.1 h.2.2.1)).moved hW.alike, Nat.lt_of_lt_of_le h.2.1 hS.1, fun z => h.2.2.1 (hF b z), h.2.2.2⟩
theorem tw_scr.blind {b L : Nat} {xs : Nat → Int32} {A : Nat → Prop} {U : State} {g : JFrame} {mk : MethodId} {a : Array Value} (h : tw_scr b L xs A U U.heap) : tw_scr b L xs A (U.calling g mk a) (U.calling g mk a).heap :=
  ⟨h.1.moved (u := U) (U := U.calling g mk a) (Vm.Alike.refl U.vm), h.2⟩
theorem sc_in {k : Int32} {L : Nat} (hL : L < 2 ^ 31) (h0 : ¬ k < 0) (h : ¬ nI L ≤ k) : vp_in k L := by
  rw [Int32.le_iff_toInt_le, nI_toInt hL] at h
  exact ch_in h0 (by omega)

def m_Law_cell_r (L : Nat) (xs : Nat → Int32) (k : Int32) : Int32 := if (((Int32.ofNat L))) ≤ k then 0 else xs k.toNatClampNeg
set_option maxHeartbeats 4000000 in
set_option maxRecDepth 100000 in
/-- a cell of the script -/
theorem c_Law_cell (l : Launch) (dC : Nat → ClassId) (dI : Nat → Nat → Nat) (sz : Nat) (b : Nat) (L : Nat) (xs : Nat → Int32) (k : Int32) (hk : ¬ k < 0) : Met l y_Law_cell w_Law_cell ({ frames := 0, cells := 0, slots := 0, locals := 0 }) (va_Pc [.ref b, .int k] (fun U => U.heap.size = sz ∧ va_P (dC, dI) classes ([] : va_W) U.heap ∧ va_K (dC, dI) classes [] U ∧ va_D (fun _ => True) ([] : va_W) ∧ tw_scr b L xs (va_A ([] : va_W) sz) U U.heap)) (va_Qi (fun (r : Int32) (_ : Unit) => r = m_Law_cell_r L xs k) (fun (_ : Unit) t => va_P (dC, dI) classes ([] : va_W) t.heap ∧ va_K (dC, dI) classes [] t ∧ va_D (va_A ([] : va_W) sz) ([] : va_W)) (va_A ([] : va_W) sz)) 0 0 (va_A ([] : va_W) sz) := by
  refine Met.ofW (cc := b_Law_cell) (maxL := 2) (ret := (some .int)) (by decide) rfl ?_
  intro p e s m args below meth c s₁ B hml hv
  obtain ⟨rfl, hsz, hP, hK, hD0, hC⟩ := hv
  have hx := B.exec
  have hb := B.bytes
  have hr := B.returns
  have hts := atoms_spec (ws := w_Law_cell) B.pre
  have htt : ∀ w ∈ tw_T, w.before _ s = true := fun w h => hts w (List.mem_cons_of_mem _ h)
  have hown : s.vm.findClass R_Law = some m.cls := findClass_of_methodNamed B.named
  have hlocks := B.notSynchronized
  subst hsz
  have hD := hD0.self (sz := s.heap.size)
  generalize hAe : va_A ([] : va_W) s.heap.size = A at hD hC ⊢
  have hA : ∀ q : Nat, s.heap.size ≤ q → A q := fun q h => by rw [← hAe]; exact Or.inr h
  have hS : va_S A s.heap s.heap [] := va_S.rf
  have hP : va_P (dC, dI) classes ([] : va_W) s.heap := hP
  have hl := lv_entry ([.ref b, .int k]) (n := 2) (Nat.le_of_ble_eq_true rfl)
  rw [lg_entry_eq]
  generalize (lg_sl ([.ref b, .int k]) ++ List.replicate (2 - (lg_sl ([.ref b, .int k])).length) Slot.unset).toArray = ls at hl ⊢
  have hl : lv_has ls 2 [(0, .ref b), (1, .int k)] := hl
  refine lv_iload_n hx hb d_Law_cell_0 rfl (lv_at hl 1 rfl) ?_
  refine lv_aload_n hx hb d_Law_cell_1 rfl (lv_at hl 0 rfl) ?_
  refine va_slen hx hb hC.1 hC.2.1 hC.2.2.1 hS d_Law_cell_2 ?_
  refine lv_icmp_ge (tgt := 12) hx hb d_Law_cell_3 (by decide) (fun c_1 => ?_) (fun c_1 => ?_)
  · refine lv_iconst (v := 0) hx hb d_Law_cell_12 (by decide) ?_
    have hP9 := hP.sub (ws' := []) [] rfl
    have hD9 := hD.sub (ws' := []) [] (by decide) rfl
    exact W.iret (v := 0) hx hb hr (fun t9 ht hW => ⟨⟨0, (), rfl, by unfold m_Law_cell_r; simp only [if_pos c_1], by rw [ht]; exact hP9, va_K.moved hW.alike hK, hD9⟩, hS.F ht⟩) hS.2.2 d_Law_cell_13
  · refine lv_aload_n hx hb d_Law_cell_6 rfl (lv_at hl 0 rfl) ?_
    refine lv_iload_n hx hb d_Law_cell_7 rfl (lv_at hl 1 rfl) ?_
    have h_2 : vp_in k L := sc_in hC.2.2.2 hk c_1
    refine va_sld hx hb hC.1 hC.2.1 hC.2.2.1 hS h_2 d_Law_cell_8 ?_
    refine lv_goto (tgt := 13) hx hb d_Law_cell_9 (by decide) ?_
    have hP9 := hP.sub (ws' := []) [] rfl
    have hD9 := hD.sub (ws' := []) [] (by decide) rfl
    exact W.iret (v := xs k.toNatClampNeg) hx hb hr (fun t9 ht hW => ⟨⟨xs k.toNatClampNeg, (), rfl, by unfold m_Law_cell_r; simp only [if_neg c_1], by rw [ht]; exact hP9, va_K.moved hW.alike hK, hD9⟩, hS.F ht⟩) hS.2.2 d_Law_cell_13

theorem law_end {p : Program} {e : Env} {s : State} {m : MethodId} {below : List Frame} {meth : Method} {c : Code} (l : Launch) {b : Nat} {A : Nat → Prop} (hx : p.tables.exec = Jvm.exec) (hb : c.code = code) (hr : meth.sig.returnType = ret) (hlocks : meth.locks = false) (hAs : ∀ q, A q → s.heap.size ≤ q) {H : Heap} {locs : List Loc} {ls : Array Slot} {cells slots : Nat} (hc : cells ≤ 601024) (hs : slots ≤ 7293000) (hS : va_S A s.heap H locs) :
    W p l e room_1 s m #[Value.ref b] below meth c H locs cells slots (lw_Z below #[Value.ref b] s) (F0 m 803 ls []) := by
  refine lv_iconst (v := 1) hx hb d_Law_law_803 (by decide) ?_
  refine va_forget (fun q hq => hAs _ (hS.2.2 q hq)) ?_
  refine W.widen (k := 601024) (n := 7293000) hc hs ?_
  exact lw_ret hx hb hr hlocks d_Law_law_804
