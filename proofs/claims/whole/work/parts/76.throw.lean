
/-- a static field as its class lays it, its cell being none of ours -/
def tw_ls (C n d : String) (A : Nat → Prop) (U : State) (H : Heap) : Prop := ∃ (c : ClassId) (k : Class) (i : Nat) (f : Field) (a : Nat) (cell : Cell), U.vm.findClass C = some c ∧ U.fieldFound? C n d = some (c, k, i, f) ∧ f.isStatic = true ∧ k.statics = some a ∧ H[a]? = some cell ∧ cell.vm.isStatics = true ∧ cell.cls = c ∧ f.slot < cell.slots.size ∧ k.staticTypes[f.slot]? = some f.type ∧ ¬ A a
theorem tw_ls.moved {C n d : String} {A : Nat → Prop} {u U : State} {H : Heap} (hvm : u.vm.Alike U.vm) (h : tw_ls C n d A u H) : tw_ls C n d A U H := by
  obtain ⟨c, k, i, f, a, cell, h1, h2, h3, h4, h5, h6, h7, h8, h9, h10⟩ := h
  obtain ⟨k', hi', he⟩ := State.fieldFound?_setVm hvm h2
  exact ⟨c, k', i, f, a, cell, by rw [hvm.findClass]; exact h1, hi', h3, by rw [he]; exact h4, h5, h6, h7, h8, by rw [he]; exact h9, h10⟩
theorem tw_ls.kept {C n d : String} {A : Nat → Prop} {U : State} {H H1 : Heap} (h : tw_ls C n d A U H) (hq : ∀ a : Nat, a < H.size → ¬ A a → H1[a]? = H[a]?) : tw_ls C n d A U H1 := by
  obtain ⟨c, k, i, f, a, cell, h1, h2, h3, h4, h5, h6, h7, h8, h9, h10⟩ := h
  exact ⟨c, k, i, f, a, cell, h1, h2, h3, h4, by rw [hq a (Array.getElem?_eq_some_iff.mp h5).1 h10]; exact h5, h6, h7, h8, h9, h10⟩
theorem tw_ls.narrow {C n d : String} {A B : Nat → Prop} {U : State} {H : Heap} (h : tw_ls C n d A U H) (hAB : ∀ q, B q → A q) : tw_ls C n d B U H := by
  obtain ⟨c, k, i, f, a, cell, h1, h2, h3, h4, h5, h6, h7, h8, h9, h10⟩ := h
  exact ⟨c, k, i, f, a, cell, h1, h2, h3, h4, h5, h6, h7, h8, h9, fun z => h10 (hAB a z)⟩
theorem tw_ls.of {C n d : String} {A : Nat → Prop} {args : Array Value} {s : State} (h : (Cond.laysStatic C n d).before args s = true) (hA : ∀ a : Nat, a < s.heap.size → ¬ A a) : tw_ls C n d A s s.heap := by
  obtain ⟨c, k, i, f, a, cell, hc, hi, hst, ha, hcell, hs, hcls, hlt, hty⟩ := Cond.laysStatic_spec h
  exact ⟨c, k, i, f, a, cell, hc, hi, hst, ha, hcell, hs, hcls, hlt, hty, hA a (Array.getElem?_eq_some_iff.mp hcell).1⟩
theorem tw_ls.use {C n d : String} {A : Nat → Prop} {args : Array Value} {s : State} (h : tw_ls C n d A s s.heap) : (Cond.laysStatic C n d).before args s = true := by
  obtain ⟨c, k, i, f, a, cell, h1, h2, h3, h4, h5, h6, h7, h8, h9, -⟩ := h
  exact Cond.laysStatic_of h1 h2 h3 h4 h5 h6 h7 h8 h9

theorem xa_0 : Cond.initialized "java/lang/Throwable" ∈ tw_T := tw_i1 22 (by decide +kernel) (by decide +kernel)
theorem xa_1 : Cond.superclass "java/lang/Throwable" "java/lang/Object" ∈ tw_T := tw_i8 16 (by decide +kernel) (by decide +kernel)
theorem xa_2 : Cond.instanceMethod ⟨"java/lang/Throwable", "fillInStackTrace", "()Ljava/lang/Throwable;"⟩ ∈ tw_T := tw_i8 25 (by decide +kernel) (by decide +kernel)
set_option maxRecDepth 100000 in
theorem xa_3 : Cond.codeSync ⟨"java/lang/Throwable", "fillInStackTrace", "()Ljava/lang/Throwable;"⟩ prog_24_method_18_code 1 (some (.object "java/lang/Throwable")) ∈ tw_T := tw_i8 27 rfl rfl
theorem xa_4 : Cond.instanceMethod ⟨"java/lang/Throwable", "fillInStackTrace", "(I)Ljava/lang/Throwable;"⟩ ∈ tw_T := tw_i8 30 (by decide +kernel) (by decide +kernel)
theorem xa_5 : Cond.native ⟨"java/lang/Throwable", "fillInStackTrace", "(I)Ljava/lang/Throwable;"⟩ ∈ tw_T := tw_i8 32 (by decide +kernel) (by decide +kernel)
theorem xa_6 : Cond.instanceMethod ⟨"java/lang/Throwable", "<init>", "()V"⟩ ∈ tw_T := tw_i8 17 (by decide +kernel) (by decide +kernel)
set_option maxRecDepth 100000 in
theorem xa_7 : Cond.code ⟨"java/lang/Throwable", "<init>", "()V"⟩ prog_24_method_1_code 1 none ∈ tw_T := tw_i8 18 rfl rfl
theorem xa_8 : Cond.instanceMethod ⟨"java/lang/Object", "<init>", "()V"⟩ ∈ tw_T := tw_i1 32 (by decide +kernel) (by decide +kernel)
set_option maxRecDepth 100000 in
theorem xa_9 : Cond.code ⟨"java/lang/Object", "<init>", "()V"⟩ object_method_1_code 1 none ∈ tw_T := tw_i1 33 rfl rfl
theorem xa_10 : Cond.methodLink "java/lang/Throwable" 1 ⟨"java/lang/Object", "<init>", "()V"⟩ ∈ tw_T := tw_i8 19 (by decide +kernel) (by decide +kernel)
theorem xa_11 : Cond.methodLink "java/lang/Throwable" 27 ⟨"java/lang/Throwable", "fillInStackTrace", "()Ljava/lang/Throwable;"⟩ ∈ tw_T := tw_i8 24 (by decide +kernel) (by decide +kernel)
theorem xa_12 : Cond.methodLink "java/lang/Throwable" 202 ⟨"java/lang/Throwable", "fillInStackTrace", "(I)Ljava/lang/Throwable;"⟩ ∈ tw_T := tw_i8 28 (by decide +kernel) (by decide +kernel)
theorem xa_13 : Cond.fieldLink "java/lang/Throwable" 7 "java/lang/Throwable" "cause" "Ljava/lang/Throwable;" ∈ tw_T := tw_i8 44 (by decide +kernel) (by decide +kernel)
theorem xa_14 : Cond.lays "java/lang/Throwable" "java/lang/Throwable" "cause" "Ljava/lang/Throwable;" ∈ tw_T := tw_i8 6 (by decide +kernel) (by decide +kernel)
theorem xa_15 : Cond.fieldLink "java/lang/Throwable" 17 "java/lang/Throwable" "stackTrace" "[Ljava/lang/StackTraceElement;" ∈ tw_T := tw_i8 45 (by decide +kernel) (by decide +kernel)
theorem xa_16 : Cond.lays "java/lang/Throwable" "java/lang/Throwable" "stackTrace" "[Ljava/lang/StackTraceElement;" ∈ tw_T := tw_i8 8 (by decide +kernel) (by decide +kernel)
theorem xa_17 : Cond.fieldLink "java/lang/Throwable" 24 "java/lang/Throwable" "suppressedExceptions" "Ljava/util/List;" ∈ tw_T := tw_i8 46 (by decide +kernel) (by decide +kernel)
theorem xa_18 : Cond.lays "java/lang/Throwable" "java/lang/Throwable" "suppressedExceptions" "Ljava/util/List;" ∈ tw_T := tw_i8 10 (by decide +kernel) (by decide +kernel)
theorem xa_19 : Cond.fieldLink "java/lang/Throwable" 13 "java/lang/Throwable" "UNASSIGNED_STACK" "[Ljava/lang/StackTraceElement;" ∈ tw_T := tw_i8 20 (by decide +kernel) (by decide +kernel)
theorem xa_21 : Cond.fieldLink "java/lang/Throwable" 20 "java/lang/Throwable" "SUPPRESSED_SENTINEL" "Ljava/util/List;" ∈ tw_T := tw_i8 22 (by decide +kernel) (by decide +kernel)
theorem xa_23 : Cond.lays "java/lang/Throwable" "java/lang/Throwable" "detailMessage" "Ljava/lang/String;" ∈ tw_T := tw_i8 12 (by decide +kernel) (by decide +kernel)
theorem xa_24 : Cond.instanceMethod ⟨"java/util/NoSuchElementException", "<init>", "()V"⟩ ∈ tw_T := tw_i8 34 (by decide +kernel) (by decide +kernel)
set_option maxRecDepth 100000 in
theorem xa_25 : Cond.code ⟨"java/util/NoSuchElementException", "<init>", "()V"⟩ prog_26_method_1_code 1 none ∈ tw_T := tw_i8 35 rfl rfl
theorem xa_26 : Cond.methodLink "java/util/NoSuchElementException" 1 ⟨"java/lang/RuntimeException", "<init>", "()V"⟩ ∈ tw_T := tw_i8 36 (by decide +kernel) (by decide +kernel)
theorem xa_27 : Cond.instanceMethod ⟨"java/lang/RuntimeException", "<init>", "()V"⟩ ∈ tw_T := tw_i8 37 (by decide +kernel) (by decide +kernel)
theorem xa_29 : Cond.instanceMethod ⟨"java/lang/RuntimeException", "<init>", "()V"⟩ ∈ tw_T := tw_i8 37 (by decide +kernel) (by decide +kernel)
set_option maxRecDepth 100000 in
theorem xa_30 : Cond.code ⟨"java/lang/RuntimeException", "<init>", "()V"⟩ prog_19_method_1_code 1 none ∈ tw_T := tw_i8 38 rfl rfl
theorem xa_31 : Cond.methodLink "java/lang/RuntimeException" 1 ⟨"java/lang/Exception", "<init>", "()V"⟩ ∈ tw_T := tw_i8 39 (by decide +kernel) (by decide +kernel)
theorem xa_32 : Cond.instanceMethod ⟨"java/lang/Exception", "<init>", "()V"⟩ ∈ tw_T := tw_i8 40 (by decide +kernel) (by decide +kernel)
theorem xa_34 : Cond.instanceMethod ⟨"java/lang/Exception", "<init>", "()V"⟩ ∈ tw_T := tw_i8 40 (by decide +kernel) (by decide +kernel)
set_option maxRecDepth 100000 in
theorem xa_35 : Cond.code ⟨"java/lang/Exception", "<init>", "()V"⟩ prog_16_method_1_code 1 none ∈ tw_T := tw_i8 41 rfl rfl
theorem xa_36 : Cond.methodLink "java/lang/Exception" 1 ⟨"java/lang/Throwable", "<init>", "()V"⟩ ∈ tw_T := tw_i8 42 (by decide +kernel) (by decide +kernel)
theorem xa_37 : Cond.instanceMethod ⟨"java/lang/Throwable", "<init>", "()V"⟩ ∈ tw_T := tw_i8 17 (by decide +kernel) (by decide +kernel)
theorem xa_39 : Cond.methodLink "TurtleWorld" 191 ⟨"java/util/NoSuchElementException", "<init>", "()V"⟩ ∈ tw_T := tw_i8 33 (by decide +kernel) (by decide +kernel)
theorem xa_40 : Cond.instantiable "java/util/NoSuchElementException" 6 ∈ tw_T := tw_i7 235 (by decide +kernel) (by decide +kernel)
theorem xa_42 : Cond.selects "java/util/NoSuchElementException" ⟨"java/lang/Throwable", "fillInStackTrace", "(I)Ljava/lang/Throwable;"⟩ ⟨"java/lang/Throwable", "fillInStackTrace", "(I)Ljava/lang/Throwable;"⟩ ∈ tw_T := tw_i8 3 (by decide +kernel) (by decide +kernel)
theorem xa_43 : Cond.selects "java/util/NoSuchElementException" ⟨"java/lang/Throwable", "fillInStackTrace", "()Ljava/lang/Throwable;"⟩ ⟨"java/lang/Throwable", "fillInStackTrace", "()Ljava/lang/Throwable;"⟩ ∈ tw_T := tw_i8 4 (by decide +kernel) (by decide +kernel)
theorem xa_44 : Cond.lays "java/util/NoSuchElementException" "java/lang/Throwable" "cause" "Ljava/lang/Throwable;" ∈ tw_T := tw_i8 5 (by decide +kernel) (by decide +kernel)
theorem xa_45 : Cond.lays "java/util/NoSuchElementException" "java/lang/Throwable" "stackTrace" "[Ljava/lang/StackTraceElement;" ∈ tw_T := tw_i8 7 (by decide +kernel) (by decide +kernel)
theorem xa_46 : Cond.lays "java/util/NoSuchElementException" "java/lang/Throwable" "suppressedExceptions" "Ljava/util/List;" ∈ tw_T := tw_i8 9 (by decide +kernel) (by decide +kernel)
theorem xa_47 : Cond.lays "java/util/NoSuchElementException" "java/lang/Throwable" "detailMessage" "Ljava/lang/String;" ∈ tw_T := tw_i8 11 (by decide +kernel) (by decide +kernel)
theorem xa_50 : Cond.fieldLink "java/lang/Throwable" 198 "java/lang/Throwable" "backtrace" "Ljava/lang/Object;" ∈ tw_T := tw_i8 15 (by decide +kernel) (by decide +kernel)
theorem xa_51 : Cond.lays "java/lang/Throwable" "java/lang/Throwable" "backtrace" "Ljava/lang/Object;" ∈ tw_T := tw_i8 14 (by decide +kernel) (by decide +kernel)
theorem xa_52 : Cond.lays "java/util/NoSuchElementException" "java/lang/Throwable" "backtrace" "Ljava/lang/Object;" ∈ tw_T := tw_i8 13 (by decide +kernel) (by decide +kernel)
/-- what a throw wants of the JDK's tables and statics -/
def tw_X (A : Nat → Prop) (U : State) (H : Heap) : Prop := va_Zq "java/lang/Throwable" "UNASSIGNED_STACK" "[Ljava/lang/StackTraceElement;" A U H ∧ va_Zq "java/lang/Throwable" "SUPPRESSED_SENTINEL" "Ljava/util/List;" A U H ∧ tw_ls "java/lang/Throwable" "UNASSIGNED_STACK" "[Ljava/lang/StackTraceElement;" A U H ∧ tw_ls "java/lang/Throwable" "SUPPRESSED_SENTINEL" "Ljava/util/List;" A U H ∧ va_Nw (Cond.declares ⟨"java/lang/RuntimeException", "<init>", "()V"⟩) U ∧ va_Nw (Cond.declares ⟨"java/lang/Exception", "<init>", "()V"⟩) U ∧ va_Nw (Cond.declares ⟨"java/lang/Throwable", "<init>", "()V"⟩) U ∧ va_Nw (Cond.castable "java/util/NoSuchElementException" "java/util/NoSuchElementException") U
theorem tw_X.pass {A B : Nat → Prop} {s U : State} {H : Heap} {locs : List Loc} (h : tw_X A s s.heap) (hS : va_S A s.heap H locs) (hF : ∀ q, B q → A q) (hW : s.WarmedH U.vm) (hU : U.heap = H) : tw_X B U U.heap := by
  subst hU
  exact ⟨((h.1.kept hS.2.1).narrow hF).moved hW.alike, ((h.2.1.kept hS.2.1).narrow hF).moved hW.alike, ((h.2.2.1.kept hS.2.1).narrow hF).moved hW.alike, ((h.2.2.2.1.kept hS.2.1).narrow hF).moved hW.alike, va_Nw.warmD hW h.2.2.2.2.1, va_Nw.warmD hW h.2.2.2.2.2.1, va_Nw.warmD hW h.2.2.2.2.2.2.1, va_Nw.warmC hW h.2.2.2.2.2.2.2⟩
theorem tw_X.blind {A : Nat → Prop} {U : State} {g : JFrame} {mk : MethodId} {a : Array Value} (h : tw_X A U U.heap) : tw_X A (U.calling g mk a) (U.calling g mk a).heap :=
  ⟨h.1.moved (u := U) (U := U.calling g mk a) (Vm.Alike.refl U.vm), h.2.1.moved (u := U) (U := U.calling g mk a) (Vm.Alike.refl U.vm), h.2.2.1.moved (u := U) (U := U.calling g mk a) (Vm.Alike.refl U.vm), h.2.2.2.1.moved (u := U) (U := U.calling g mk a) (Vm.Alike.refl U.vm), va_Nw.same rfl (u := U) rfl h.2.2.2.2.1, va_Nw.same rfl (u := U) rfl h.2.2.2.2.2.1, va_Nw.same rfl (u := U) rfl h.2.2.2.2.2.2.1, va_Nw.same rfl (u := U) rfl h.2.2.2.2.2.2.2⟩

theorem xa_all {args : Array Value} {s : State} {A : Nat → Prop} (htt : ∀ w ∈ tw_T, w.before args s = true) (h : tw_X A s s.heap) :
    ∀ a ∈ Bundle.ownAtoms0 "TurtleWorld" 191 "java/util/NoSuchElementException" ["java/lang/RuntimeException", "java/lang/Exception"], a.before args s = true := by
  have h9 : ∀ a ∈ ([Cond.initialized "java/lang/Throwable", Cond.superclass "java/lang/Throwable" "java/lang/Object", Cond.instanceMethod ⟨"java/lang/Throwable", "fillInStackTrace", "()Ljava/lang/Throwable;"⟩, Cond.codeSync ⟨"java/lang/Throwable", "fillInStackTrace", "()Ljava/lang/Throwable;"⟩ prog_24_method_18_code 1 (some (.object "java/lang/Throwable")), Cond.instanceMethod ⟨"java/lang/Throwable", "fillInStackTrace", "(I)Ljava/lang/Throwable;"⟩, Cond.native ⟨"java/lang/Throwable", "fillInStackTrace", "(I)Ljava/lang/Throwable;"⟩, Cond.instanceMethod ⟨"java/lang/Throwable", "<init>", "()V"⟩, Cond.code ⟨"java/lang/Throwable", "<init>", "()V"⟩ prog_24_method_1_code 1 none, Cond.instanceMethod ⟨"java/lang/Object", "<init>", "()V"⟩, Cond.code ⟨"java/lang/Object", "<init>", "()V"⟩ object_method_1_code 1 none, Cond.methodLink "java/lang/Throwable" 1 ⟨"java/lang/Object", "<init>", "()V"⟩, Cond.methodLink "java/lang/Throwable" 27 ⟨"java/lang/Throwable", "fillInStackTrace", "()Ljava/lang/Throwable;"⟩, Cond.methodLink "java/lang/Throwable" 202 ⟨"java/lang/Throwable", "fillInStackTrace", "(I)Ljava/lang/Throwable;"⟩, Cond.fieldLink "java/lang/Throwable" 7 "java/lang/Throwable" "cause" "Ljava/lang/Throwable;", Cond.lays "java/lang/Throwable" "java/lang/Throwable" "cause" "Ljava/lang/Throwable;", Cond.fieldLink "java/lang/Throwable" 17 "java/lang/Throwable" "stackTrace" "[Ljava/lang/StackTraceElement;", Cond.lays "java/lang/Throwable" "java/lang/Throwable" "stackTrace" "[Ljava/lang/StackTraceElement;", Cond.fieldLink "java/lang/Throwable" 24 "java/lang/Throwable" "suppressedExceptions" "Ljava/util/List;", Cond.lays "java/lang/Throwable" "java/lang/Throwable" "suppressedExceptions" "Ljava/util/List;", Cond.fieldLink "java/lang/Throwable" 13 "java/lang/Throwable" "UNASSIGNED_STACK" "[Ljava/lang/StackTraceElement;", Cond.laysStatic "java/lang/Throwable" "UNASSIGNED_STACK" "[Ljava/lang/StackTraceElement;", Cond.fieldLink "java/lang/Throwable" 20 "java/lang/Throwable" "SUPPRESSED_SENTINEL" "Ljava/util/List;", Cond.laysStatic "java/lang/Throwable" "SUPPRESSED_SENTINEL" "Ljava/util/List;", Cond.lays "java/lang/Throwable" "java/lang/Throwable" "detailMessage" "Ljava/lang/String;", Cond.instanceMethod ⟨"java/util/NoSuchElementException", "<init>", "()V"⟩, Cond.code ⟨"java/util/NoSuchElementException", "<init>", "()V"⟩ prog_26_method_1_code 1 none, Cond.methodLink "java/util/NoSuchElementException" 1 ⟨"java/lang/RuntimeException", "<init>", "()V"⟩, Cond.instanceMethod ⟨"java/lang/RuntimeException", "<init>", "()V"⟩, Cond.declares ⟨"java/lang/RuntimeException", "<init>", "()V"⟩, Cond.instanceMethod ⟨"java/lang/RuntimeException", "<init>", "()V"⟩, Cond.code ⟨"java/lang/RuntimeException", "<init>", "()V"⟩ prog_19_method_1_code 1 none, Cond.methodLink "java/lang/RuntimeException" 1 ⟨"java/lang/Exception", "<init>", "()V"⟩, Cond.instanceMethod ⟨"java/lang/Exception", "<init>", "()V"⟩, Cond.declares ⟨"java/lang/Exception", "<init>", "()V"⟩, Cond.instanceMethod ⟨"java/lang/Exception", "<init>", "()V"⟩, Cond.code ⟨"java/lang/Exception", "<init>", "()V"⟩ prog_16_method_1_code 1 none, Cond.methodLink "java/lang/Exception" 1 ⟨"java/lang/Throwable", "<init>", "()V"⟩, Cond.instanceMethod ⟨"java/lang/Throwable", "<init>", "()V"⟩, Cond.declares ⟨"java/lang/Throwable", "<init>", "()V"⟩, Cond.methodLink "TurtleWorld" 191 ⟨"java/util/NoSuchElementException", "<init>", "()V"⟩, Cond.instantiable "java/util/NoSuchElementException" 6, Cond.castable "java/util/NoSuchElementException" "java/util/NoSuchElementException", Cond.selects "java/util/NoSuchElementException" ⟨"java/lang/Throwable", "fillInStackTrace", "(I)Ljava/lang/Throwable;"⟩ ⟨"java/lang/Throwable", "fillInStackTrace", "(I)Ljava/lang/Throwable;"⟩, Cond.selects "java/util/NoSuchElementException" ⟨"java/lang/Throwable", "fillInStackTrace", "()Ljava/lang/Throwable;"⟩ ⟨"java/lang/Throwable", "fillInStackTrace", "()Ljava/lang/Throwable;"⟩, Cond.lays "java/util/NoSuchElementException" "java/lang/Throwable" "cause" "Ljava/lang/Throwable;", Cond.lays "java/util/NoSuchElementException" "java/lang/Throwable" "stackTrace" "[Ljava/lang/StackTraceElement;", Cond.lays "java/util/NoSuchElementException" "java/lang/Throwable" "suppressedExceptions" "Ljava/util/List;", Cond.lays "java/util/NoSuchElementException" "java/lang/Throwable" "detailMessage" "Ljava/lang/String;", Cond.isRef (.static "java/lang/Throwable" "UNASSIGNED_STACK" "[Ljava/lang/StackTraceElement;"), Cond.isRef (.static "java/lang/Throwable" "SUPPRESSED_SENTINEL" "Ljava/util/List;"), Cond.fieldLink "java/lang/Throwable" 198 "java/lang/Throwable" "backtrace" "Ljava/lang/Object;", Cond.lays "java/lang/Throwable" "java/lang/Throwable" "backtrace" "Ljava/lang/Object;", Cond.lays "java/util/NoSuchElementException" "java/lang/Throwable" "backtrace" "Ljava/lang/Object;"] : List Cond), a.before args s = true := by
    refine List.forall_mem_cons.mpr ⟨htt _ xa_0, ?_⟩
    refine List.forall_mem_cons.mpr ⟨htt _ xa_1, ?_⟩
    refine List.forall_mem_cons.mpr ⟨htt _ xa_2, ?_⟩
    refine List.forall_mem_cons.mpr ⟨htt _ xa_3, ?_⟩
    refine List.forall_mem_cons.mpr ⟨htt _ xa_4, ?_⟩
    refine List.forall_mem_cons.mpr ⟨htt _ xa_5, ?_⟩
    refine List.forall_mem_cons.mpr ⟨htt _ xa_6, ?_⟩
    refine List.forall_mem_cons.mpr ⟨htt _ xa_7, ?_⟩
    refine List.forall_mem_cons.mpr ⟨htt _ xa_8, ?_⟩
    refine List.forall_mem_cons.mpr ⟨htt _ xa_9, ?_⟩
    refine List.forall_mem_cons.mpr ⟨htt _ xa_10, ?_⟩
    refine List.forall_mem_cons.mpr ⟨htt _ xa_11, ?_⟩
    refine List.forall_mem_cons.mpr ⟨htt _ xa_12, ?_⟩
    refine List.forall_mem_cons.mpr ⟨htt _ xa_13, ?_⟩
    refine List.forall_mem_cons.mpr ⟨htt _ xa_14, ?_⟩
    refine List.forall_mem_cons.mpr ⟨htt _ xa_15, ?_⟩
    refine List.forall_mem_cons.mpr ⟨htt _ xa_16, ?_⟩
    refine List.forall_mem_cons.mpr ⟨htt _ xa_17, ?_⟩
    refine List.forall_mem_cons.mpr ⟨htt _ xa_18, ?_⟩
    refine List.forall_mem_cons.mpr ⟨htt _ xa_19, ?_⟩
    refine List.forall_mem_cons.mpr ⟨h.2.2.1.use, ?_⟩
    refine List.forall_mem_cons.mpr ⟨htt _ xa_21, ?_⟩
    refine List.forall_mem_cons.mpr ⟨h.2.2.2.1.use, ?_⟩
    refine List.forall_mem_cons.mpr ⟨htt _ xa_23, ?_⟩
    refine List.forall_mem_cons.mpr ⟨htt _ xa_24, ?_⟩
    refine List.forall_mem_cons.mpr ⟨htt _ xa_25, ?_⟩
    refine List.forall_mem_cons.mpr ⟨htt _ xa_26, ?_⟩
    refine List.forall_mem_cons.mpr ⟨htt _ xa_27, ?_⟩
    refine List.forall_mem_cons.mpr ⟨va_Nw.use rfl h.2.2.2.2.1, ?_⟩
    refine List.forall_mem_cons.mpr ⟨htt _ xa_29, ?_⟩
    refine List.forall_mem_cons.mpr ⟨htt _ xa_30, ?_⟩
    refine List.forall_mem_cons.mpr ⟨htt _ xa_31, ?_⟩
    refine List.forall_mem_cons.mpr ⟨htt _ xa_32, ?_⟩
    refine List.forall_mem_cons.mpr ⟨va_Nw.use rfl h.2.2.2.2.2.1, ?_⟩
    refine List.forall_mem_cons.mpr ⟨htt _ xa_34, ?_⟩
    refine List.forall_mem_cons.mpr ⟨htt _ xa_35, ?_⟩
    refine List.forall_mem_cons.mpr ⟨htt _ xa_36, ?_⟩
    refine List.forall_mem_cons.mpr ⟨htt _ xa_37, ?_⟩
    refine List.forall_mem_cons.mpr ⟨va_Nw.use rfl h.2.2.2.2.2.2.1, ?_⟩
    refine List.forall_mem_cons.mpr ⟨htt _ xa_39, ?_⟩
    refine List.forall_mem_cons.mpr ⟨htt _ xa_40, ?_⟩
    refine List.forall_mem_cons.mpr ⟨va_Nw.use rfl h.2.2.2.2.2.2.2, ?_⟩
    refine List.forall_mem_cons.mpr ⟨htt _ xa_42, ?_⟩
    refine List.forall_mem_cons.mpr ⟨htt _ xa_43, ?_⟩
    refine List.forall_mem_cons.mpr ⟨htt _ xa_44, ?_⟩
    refine List.forall_mem_cons.mpr ⟨htt _ xa_45, ?_⟩
    refine List.forall_mem_cons.mpr ⟨htt _ xa_46, ?_⟩
    refine List.forall_mem_cons.mpr ⟨htt _ xa_47, ?_⟩
    refine List.forall_mem_cons.mpr ⟨zq_ref h.1, ?_⟩
    refine List.forall_mem_cons.mpr ⟨zq_ref h.2.1, ?_⟩
    refine List.forall_mem_cons.mpr ⟨htt _ xa_50, ?_⟩
    refine List.forall_mem_cons.mpr ⟨htt _ xa_51, ?_⟩
    refine List.forall_mem_cons.mpr ⟨htt _ xa_52, ?_⟩
    exact fun _ h => absurd h List.not_mem_nil
  exact h9
