
/-- a call of a method that throws, and the handler that takes it -/
theorem tw_callT {p : Program} {l : Launch} {e : Env} {R : Room} {s : State} {m : MethodId} {args : Array Value} {below : List Frame} {meth : Method} {c : Code} {H : Heap} {locs : List Loc} {cells slots : Nat} {Q : State → Prop}
    {cc bytes : ByteArray} {nL maxL mc ms n index pc st9 en9 hpc ct b : Nat} {Ts ws : List Cond} {own C : String} {y : MethodName} {ret : Option FieldType} {rm : Room} {Pc : Array Value → State → Prop} {As rest : List Value} {ls : Array Slot}
    (S : CallFix p m c cc nL s args Ts own) (hM : MetT l y ws rm Pc mc ms) (cw : CallW R s args own C index y bytes maxL ret ws rm mc ms n) (hp : PreV s H C b Pc As)
    (hn : As.length = n) (hsize : ls.size = nL) (hW : 2 * (F0 m pc ls rest).monitorRoom + (rest.map fun v => v.category).sum ≤ 8) (hdg : decode cc pc = .ok (.invokevirtual index, 3)) (hf : cells + mc ≤ R.cells ∧ slots + ms ≤ R.slots)
    (htab : c.exceptionTable.toList.map (fun h => (h.startPc, h.endPc, h.handlerPc, h.catchType)) = [(st9, en9, hpc, ct)]) (hcov : st9 ≤ pc ∧ pc < en9) (hct : ct ≠ 0) (hlinkX : (Cond.classLink own ct "java/util/NoSuchElementException").before args s = true)
    (kk : ∀ (x : Nat) (H1 : Heap), H.size ≤ H1.size → (∀ q : Nat, q < H.size → H1[q]? = H[q]?) → W p l e R s m args below meth c H1 locs (cells + mc) (slots + ms) Q (F0 m hpc ls [.ref x])) :
    W p l e R s m args below meth c H locs cells slots Q (F0 m pc ls (As.reverse ++ .ref b :: rest)) := by
  intro T hT X
  obtain ⟨⟨hrc, hrs, hfr, hlo, hws, hcw, hcode, hini, hy, hlen, hl⟩, hin, hse⟩ := cw
  obtain ⟨hx, hb, hml, ho, -⟩ := S
  obtain ⟨hbl, ⟨cellB, hcB, hoB, hclB⟩, hPc⟩ := hp
  obtain ⟨mk, methM, hnamed, hmethM, hstM, habM⟩ := Cond.instanceMethod_spec hin
  obtain ⟨methM', cM, hmethM', -, -, -, -, -, -, hsigM⟩ := Cond.code_spec hnamed hcode
  cases hmethM.symm.trans hmethM'
  obtain ⟨c2, r2, m2, q1, q2, q3, q4, kP, hkP, hkPi⟩ := Cond.selects_spec hse
  cases hclB.symm.trans q1
  cases (State.methodFound?_of_named hnamed hy).symm.trans q2
  cases hnamed.symm.trans q3
  have hselP : selectMethod e.platform s.vm cellB.cls mk = .method mk := by rw [Launch.admits_selectMethod X.admits]; exact q4
  obtain ⟨vm₁, X₁, hstep₁⟩ := X.invokevirtual hx ho hl hnamed hmethM hstM hkP hkPi hy (a := b) (cell := cellB) (by rw [hT]; exact hcB)
    (fun z h => by rw [h] at hoB; cases hoB) hselP hmethM habM hkP hkPi (g := F0 m pc ls (As.reverse ++ .ref b :: rest)) rfl (argsL := As) (rest := rest) (hn.trans (hlen _ hsigM)) rfl (by rw [hb]; exact hdg)
  have h : At (T.setVm vm₁) m c below := X₁.here
  have hn1 := X₁.named hnamed
  have hcode1 : (Cond.code y bytes maxL ret).before (Value.ref b :: As).toArray (T.setVm vm₁) = true := hws _ hcw _ _ X₁.warmed
  obtain ⟨methY, cY, hmY, hcY, -, hlY, -⟩ := Cond.code_spec hn1 hcode1
  obtain ⟨kY, hkY, -⟩ := className_of_methodNamed hn1
  have hini1 : (Cond.initialized y.cls).before (Value.ref b :: As).toArray (T.setVm vm₁) = true := word_at X₁.warmed (Or.inl (by first | rfl | simp [Cond.onTables, Cond.keeps, Cond.steady])) hini
  have hinitY : kY.init = .initialized := Cond.initialized_spec (findClass_of_methodNamed hn1) hkY hini1
  have happ : (headSpec ws rm).appliesLoose y e.platform ((T.setVm vm₁).calling (F0 m pc ls rest) mk (Value.ref b :: As).toArray) = true :=
    Spec.appliesLoose_calling (g := F0 m pc ls rest) h (by rw [hb]; exact hdg) hn1 hkY hinitY
      (X₁.room_calling (g := F0 m pc ls rest) (R' := (headSpec ws rm).room) (hsize.trans hml.symm) hmY hcY hfr (by rw [hlY]; have hW9 : 2 * (F0 m pc ls rest).monitorRoom + ((F0 m pc ls rest).stack.map fun v => v.category).sum ≤ 8 := hW; show _ + (maxL + 11) + rm.locals ≤ R.locals; omega) (by rw [show (headSpec ws rm).room.cells = mc from hrc]; exact hf.1) (by rw [show (headSpec ws rm).room.slots = ms from hrs]; exact hf.2))
      (atoms_intro fun w hw => hws w hw _ _ X₁.warmed)
  obtain ⟨mid, hmid⟩ := h.above
  have hfr2 : ((T.setVm vm₁).setTop (F0 m pc ls rest)).frames = (.java (F0 m pc ls rest) :: mid) ++ below := by rw [State.frames_setTop' (F0 m pc ls rest) h.top, hmid]; rfl
  obtain ⟨o, s₂, hsteps, -, hend, hq⟩ := Steps.callFree hM p X₁.admits X₁.cas X₁.clock (acts := []) hfr2 happ (hbl _ _ _ _ (hPc (T.setVm vm₁) hT X₁.warmed)) trivial
  obtain ⟨x, rfl, hsx, ⟨ce, hce, hcv, hcc, -⟩, hW₂, hsame⟩ := hq
  rw [State.frames_setTop' (F0 m pc ls rest) h.top, show (T.setVm vm₁).frames.tail = below from X₁.tail] at hend
  obtain ⟨T', X', hW', hB, ht⟩ := X₁.outOfThrown (g := F0 m pc ls rest) rfl hend hW₂ hsame
  have hpl : e.platform.magicAccessors = ({} : Platform).magicAccessors := by rw [X.admits.platform]
  obtain ⟨cX, hcX, hcl⟩ := Cond.classLink_spec ho hlinkX e.platform hpl
  have hcc' : s.vm.findClass "java/util/NoSuchElementException" = some ce.cls := by rw [← X₁.warmed.alike.findClass]; exact hcc
  cases hcX.symm.trans hcc'
  obtain ⟨dk, _, _, kt, hd, _, _, _, _, hkt, _, hopen⟩ := hcl.here
  have hcl₀ := X'.warmed.classLinks hcl
  have hWn : s.WarmedH (T'.vm.noted m.cls ct (.cls ce.cls)) := X'.warmed.noted hd hopen (State.rightAt_cls hcl)
  obtain ⟨kt', hkt', -⟩ := hWn.alike.2.2 _ _ hkt
  have hheap : s₂.heap = T'.heap := by rw [ht]; exact Stand.throwing_heap _ _ _
  obtain ⟨-, hs1, -, -, -, hall⟩ := hB
  have hs1' : T.heap.size ≤ T'.heap.size := hs1
  have hkept : ∀ q : Nat, q < T.heap.size → T'.heap[q]? = T.heap[q]? := by
    intro q hq
    obtain ⟨c', g1, g2, g3, g4⟩ := hall q _ (Array.getElem?_eq_getElem hq)
    have g1' : T'.heap[q]? = some c' := g1
    rw [g1', Array.getElem?_eq_getElem hq]
    have es : c'.slots = T.heap[q].slots := Array.ext_getElem? (fun i => g4 i (by simp))
    rw [g2, es]
  have htab2 : ∃ en : ExceptionTableEntry, c.exceptionTable.toList = [en] ∧ en.startPc = st9 ∧ en.endPc = en9 ∧ en.handlerPc = hpc ∧ en.catchType = ct := by
    match hh : c.exceptionTable.toList, htab with
    | [en], htab =>
      simp only [List.map_cons, List.map_nil, List.cons.injEq, Prod.mk.injEq, and_true] at htab
      exact ⟨en, rfl, htab.1, htab.2.1, htab.2.2.1, htab.2.2.2⟩
    | [], htab => simp at htab
    | _ :: _ :: _, htab => simp at htab
  obtain ⟨en, hen, rfl, rfl, rfl, rfl⟩ := htab2
  obtain ⟨t, a1, b1⟩ := kk x T'.heap (by rw [← hT]; exact hs1') (by rw [← hT]; exact hkept) (T'.setVm (T'.vm.noted m.cls en.catchType (.cls ce.cls))) rfl (by have hz := X'.noted hWn; rw [List.append_nil] at hz; exact hz)
  refine ⟨t, hstep₁ _ fun acts => ?_, b1⟩
  rw [doInvoke_state]
  refine hsteps.trans ?_
  rw [ht]
  refine tw_caught (g := F0 m pc ls rest) X'.here (meth := meth) (code := c) X'.method' X'.code hen (by simp [covers, hcov.1, hcov.2]) hct hcl₀ rfl (by rw [← hheap]; exact hce) (fun k h => by rw [hcv] at h; cases h) ⟨kt', hkt'⟩ ⟨kt', hkt'⟩ ?_ a1
  show Vm.assignableAux _ (255 + 1) _ _ = true
  rw [Vm.assignableAux, Bool.or_eq_true, beq_iff_eq]
  exact Or.inl rfl
