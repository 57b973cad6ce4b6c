
theorem lw_i1 {w : Cond} (i : Nat) (h : tables_1_1[i]? = some w) : w ∈ lw_tbl := List.mem_append_right _ (List.mem_append_left _ (List.mem_of_getElem? h))
theorem lw_i2 {w : Cond} (i : Nat) (h : tables_1_2[i]? = some w) : w ∈ lw_tbl := List.mem_append_right _ (List.mem_append_right _ (List.mem_append_left _ (List.mem_of_getElem? h)))
theorem lw_i3 {w : Cond} (i : Nat) (h : tables_1_3[i]? = some w) : w ∈ lw_tbl := List.mem_append_right _ (List.mem_append_right _ (List.mem_append_right _ (List.mem_append_left _ (List.mem_of_getElem? h))))
theorem lw_i4 {w : Cond} (i : Nat) (h : tables_1_4[i]? = some w) : w ∈ lw_tbl := List.mem_append_right _ (List.mem_append_right _ (List.mem_append_right _ (List.mem_append_right _ (List.mem_append_left _ (List.mem_of_getElem? h)))))
theorem lw_i5 {w : Cond} (i : Nat) (h : tables_1_5[i]? = some w) : w ∈ lw_tbl := List.mem_append_right _ (List.mem_append_right _ (List.mem_append_right _ (List.mem_append_right _ (List.mem_append_right _ (List.mem_append_left _ (List.mem_of_getElem? h))))))
theorem lw_i6 {w : Cond} (i : Nat) (h : tables_1_6[i]? = some w) : w ∈ lw_tbl := List.mem_append_right _ (List.mem_append_right _ (List.mem_append_right _ (List.mem_append_right _ (List.mem_append_right _ (List.mem_append_right _ (List.mem_append_left _ (List.mem_of_getElem? h)))))))
theorem lw_i7 {w : Cond} (i : Nat) (h : tables_1_7[i]? = some w) : w ∈ lw_tbl := List.mem_append_right _ (List.mem_append_right _ (List.mem_append_right _ (List.mem_append_right _ (List.mem_append_right _ (List.mem_append_right _ (List.mem_append_right _ (List.mem_append_left _ (List.mem_of_getElem? h))))))))
theorem lw_i8 {w : Cond} (i : Nat) (h : tables_1_8[i]? = some w) : w ∈ lw_tbl := List.mem_append_right _ (List.mem_append_right _ (List.mem_append_right _ (List.mem_append_right _ (List.mem_append_right _ (List.mem_append_right _ (List.mem_append_right _ (List.mem_append_right _ (List.mem_append_left _ (List.mem_of_getElem? h)))))))))
theorem lw_i9 {w : Cond} (i : Nat) (h : tables_1_9[i]? = some w) : w ∈ lw_tbl := List.mem_append_right _ (List.mem_append_right _ (List.mem_append_right _ (List.mem_append_right _ (List.mem_append_right _ (List.mem_append_right _ (List.mem_append_right _ (List.mem_append_right _ (List.mem_append_right _ (List.mem_append_left _ (List.mem_of_getElem? h))))))))))
theorem lw_i10 {w : Cond} (i : Nat) (h : tables_1_10[i]? = some w) : w ∈ lw_tbl := List.mem_append_right _ (List.mem_append_right _ (List.mem_append_right _ (List.mem_append_right _ (List.mem_append_right _ (List.mem_append_right _ (List.mem_append_right _ (List.mem_append_right _ (List.mem_append_right _ (List.mem_append_right _ (List.mem_append_left _ (List.mem_of_getElem? h)))))))))))
theorem lw_i11 {w : Cond} (i : Nat) (h : tables_1_11[i]? = some w) : w ∈ lw_tbl := List.mem_append_right _ (List.mem_append_right _ (List.mem_append_right _ (List.mem_append_right _ (List.mem_append_right _ (List.mem_append_right _ (List.mem_append_right _ (List.mem_append_right _ (List.mem_append_right _ (List.mem_append_right _ (List.mem_append_right _ (List.mem_append_left _ (List.mem_of_getElem? h))))))))))))
theorem lw_i12 {w : Cond} (i : Nat) (h : tables_1_12[i]? = some w) : w ∈ lw_tbl := List.mem_append_right _ (List.mem_append_right _ (List.mem_append_right _ (List.mem_append_right _ (List.mem_append_right _ (List.mem_append_right _ (List.mem_append_right _ (List.mem_append_right _ (List.mem_append_right _ (List.mem_append_right _ (List.mem_append_right _ (List.mem_append_right _ (List.mem_of_getElem? h))))))))))))
theorem tw_law : ∀ w ∈ tw_T, w ∈ lw_tbl := fun _ h => (List.mem_filter.mp h).1
/-- what is told of a text's cells -/
def st_c (own : String) (e n : Nat) (f : Nat → Int32) : List Cond := [.exactly (.string own e) "java/lang/String", .eq (.field (.string own e) "java/lang/String" "coder" "B") (.int 0), .arrayOf (.field (.string own e) "java/lang/String" "value" "[B") .byte, .eq (.length (.field (.string own e) "java/lang/String" "value" "[B")) (.int (Int32.ofNat n))] ++ (List.range n).map (fun j => .eq (.elem (.field (.string own e) "java/lang/String" "value" "[B") (.int (Int32.ofNat j))) (.int (f j)))
def sa_c (C nm : String) (n : Nat) (f : Nat → Int32) : List Cond := [.arrayOf (.static C nm "[I") .int, .eq (.length (.static C nm "[I")) (.int (Int32.ofNat n))] ++ (List.range n).map (fun j => .eq (.elem (.static C nm "[I") (.int (Int32.ofNat j))) (.int (f j)))
theorem sl_all {T : Cond} {k n : Nat} {L : List Cond} {args : Array Value} {s : State} (hT : T.before args s = true) (h : ((flatC T).drop k).take n = L) : ∀ c ∈ L, c.before args s = true := fun c hc => flat_of_before T hT c (List.mem_of_mem_drop (List.mem_of_mem_take (h ▸ hc)))
theorem st_of {args : Array Value} {s : State} {own : String} {e n : Nat} {f : Nat → Int32} {A : Nat → Prop} (hn : n < 2 ^ 31) (h : ∀ c ∈ st_c own e n f, c.before args s = true) (hcs : va_Z "java/lang/String" "COMPACT_STRINGS" "Z" (.int 1) A s s.heap) (hfm : tw_fm A s s.heap) (hA : ∀ a : Nat, a < s.heap.size → ¬ A a) :
    ∃ a v : Nat, (Term.string own e).eval args s none [] s = some (.ref a) ∧ tw_str a v n f A s s.heap := by
  have hex := h (.exactly (.string own e) "java/lang/String") (by simp [st_c])
  have hco := h (.eq (.field (.string own e) "java/lang/String" "coder" "B") (.int 0)) (by simp [st_c])
  have har := h (.arrayOf (.field (.string own e) "java/lang/String" "value" "[B") .byte) (by simp [st_c])
  have hle := h (.eq (.length (.field (.string own e) "java/lang/String" "value" "[B")) (.int (Int32.ofNat n))) (by simp [st_c])
  have hel : ∀ j, j < n → (Cond.eq (.elem (.field (.string own e) "java/lang/String" "value" "[B") (.int (Int32.ofNat j))) (.int (f j))).before args s = true := fun j hj => h _ (List.mem_append_right _ (List.mem_map.mpr ⟨j, List.mem_range.mpr hj, rfl⟩))
  obtain ⟨a, c, cA, kA, q1, q2, q3, q4, q5, q6, -⟩ := Cond.exactly_spec (args := args) (first := s) (o := none) (s := s) (idx := []) (t := .string own e) (cls := "java/lang/String") hex
  obtain ⟨t, ht, hT⟩ := va_Tof (f := fun j => .int (f j)) (A := A) hn har (va_eqt hle) (fun j hj => va_eqt (hel j hj)) hA
  exact ⟨a, t, q1, hcs, ⟨cA, q3, q5, by rw [q6]; exact q2, hA a (Array.getElem?_eq_some_iff.mp q3).1⟩, vk_OFof q1 (va_eqt hco) hA, vk_OFof q1 ht hA, hT, hn, hfm⟩
theorem sa_of {args : Array Value} {s : State} {C nm : String} {n : Nat} {f : Nat → Int32} {A : Nat → Prop} (hn : n < 2 ^ 31) (h : ∀ c ∈ sa_c C nm n f, c.before args s = true) (hl : (Cond.laysStatic C nm "[I").before args s = true) (hini : (Cond.initialized C).before args s = true) (hA : ∀ a : Nat, a < s.heap.size → ¬ A a) :
    ∃ t : Nat, va_Z C nm "[I" (.ref t) A s s.heap ∧ va_T .int t n (fun j => .int (f j)) A s s.heap := by
  have har := h (.arrayOf (.static C nm "[I") .int) (by simp [sa_c])
  have hle := h (.eq (.length (.static C nm "[I")) (.int (Int32.ofNat n))) (by simp [sa_c])
  have hel : ∀ j, j < n → (Cond.eq (.elem (.static C nm "[I") (.int (Int32.ofNat j))) (.int (f j))).before args s = true := fun j hj => h _ (List.mem_append_right _ (List.mem_map.mpr ⟨j, List.mem_range.mpr hj, rfl⟩))
  obtain ⟨t, ht, hT⟩ := va_Tof (f := fun j => .int (f j)) (A := A) hn har (va_eqt hle) (fun j hj => va_eqt (hel j hj)) hA
  exact ⟨t, va_Zof hl hini ht hA, hT⟩

theorem sl_0 : ((flatC (Jvm.Cond.and given_1 narrow_1)).drop 700).take 8 = st_c "TurtleWorld$Heap" 35 4 (tw_bt 0) := by decide +kernel
theorem sl_1 : ((flatC (Jvm.Cond.and given_1 narrow_1)).drop 708).take 9 = st_c "TurtleWorld$Heap" 44 5 (tw_bt 1) := by decide +kernel
theorem sl_2 : ((flatC (Jvm.Cond.and given_1 narrow_1)).drop 717).take 9 = st_c "TurtleWorld$Heap" 49 5 (tw_bt 2) := by decide +kernel
theorem sl_3 : ((flatC (Jvm.Cond.and given_1 narrow_1)).drop 80).take 110 = st_c "TurtleWorld$Lexicon" 27 106 (tw_bt 3) := by decide +kernel
theorem sl_4 : ((flatC (Jvm.Cond.and given_1 narrow_1)).drop 190).take 117 = st_c "TurtleWorld$Lexicon" 33 113 (tw_bt 4) := by decide +kernel
theorem sl_5 : ((flatC (Jvm.Cond.and given_1 narrow_1)).drop 307).take 165 = st_c "TurtleWorld$Lexicon" 35 161 (tw_bt 5) := by decide +kernel
theorem sl_6 : ((flatC (Jvm.Cond.and given_1 narrow_1)).drop 472).take 82 = st_c "TurtleWorld$Lexicon" 37 78 (tw_bt 6) := by decide +kernel
theorem sl_7 : ((flatC (Jvm.Cond.and given_1 narrow_1)).drop 554).take 118 = st_c "TurtleWorld$Lexicon" 39 114 (tw_bt 7) := by decide +kernel
theorem sl_8 : ((flatC (Jvm.Cond.and given_1 narrow_1)).drop 672).take 28 = st_c "TurtleWorld$Lexicon" 41 24 (tw_bt 8) := by decide +kernel
theorem sl_9 : ((flatC (Jvm.Cond.and given_1 narrow_1)).drop 726).take 6 = st_c "TurtleWorldModel" 471 2 (tw_bt 9) := by decide +kernel
theorem sl_10 : ((flatC (Jvm.Cond.and given_1 narrow_1)).drop 732).take 7 = st_c "TurtleWorldModel" 477 3 (tw_bt 10) := by decide +kernel
theorem sl_11 : ((flatC (Jvm.Cond.and given_1 narrow_1)).drop 1171).take 8 = st_c "TurtleWorldModel" 574 4 (tw_bt 11) := by decide +kernel
theorem sl_12 : ((flatC (Jvm.Cond.and given_1 narrow_1)).drop 1180).take 9 = st_c "TurtleWorldModel" 582 5 (tw_bt 12) := by decide +kernel
theorem sl_13 : ((flatC (Jvm.Cond.and given_1 narrow_1)).drop 1190).take 5 = st_c "TurtleWorldModel" 637 1 (tw_bt 13) := by decide +kernel
theorem sl_14 : ((flatC (Jvm.Cond.and given_1 narrow_1)).drop 1369).take 9 = st_c "TurtleWorldModel" 658 5 (tw_bt 14) := by decide +kernel
theorem sl_15 : ((flatC (Jvm.Cond.and given_1 narrow_1)).drop 739).take 432 = st_c "TurtleWorldModel" 668 428 (tw_bt 15) := by decide +kernel
theorem sl_16 : ((flatC (Jvm.Cond.and given_1 narrow_1)).drop 1195).take 78 = st_c "TurtleWorldModel" 670 74 (tw_bt 16) := by decide +kernel
theorem sl_17 : ((flatC (Jvm.Cond.and given_1 narrow_1)).drop 1273).take 5 = st_c "TurtleWorldModel" 672 1 (tw_bt 17) := by decide +kernel
theorem sl_18 : ((flatC (Jvm.Cond.and given_1 narrow_1)).drop 1278).take 6 = st_c "TurtleWorldModel" 674 2 (tw_bt 18) := by decide +kernel
theorem sl_19 : ((flatC (Jvm.Cond.and given_1 narrow_1)).drop 1284).take 5 = st_c "TurtleWorldModel" 676 1 (tw_bt 19) := by decide +kernel
theorem sl_20 : ((flatC (Jvm.Cond.and given_1 narrow_1)).drop 1289).take 6 = st_c "TurtleWorldModel" 678 2 (tw_bt 20) := by decide +kernel
theorem sl_21 : ((flatC (Jvm.Cond.and given_1 narrow_1)).drop 1295).take 6 = st_c "TurtleWorldModel" 680 2 (tw_bt 21) := by decide +kernel
theorem sl_22 : ((flatC (Jvm.Cond.and given_1 narrow_1)).drop 1301).take 5 = st_c "TurtleWorldModel" 682 1 (tw_bt 22) := by decide +kernel
theorem sl_23 : ((flatC (Jvm.Cond.and given_1 narrow_1)).drop 1306).take 5 = st_c "TurtleWorldModel" 684 1 (tw_bt 23) := by decide +kernel
theorem sl_24 : ((flatC (Jvm.Cond.and given_1 narrow_1)).drop 1311).take 6 = st_c "TurtleWorldModel" 686 2 (tw_bt 24) := by decide +kernel
theorem sl_25 : ((flatC (Jvm.Cond.and given_1 narrow_1)).drop 1317).take 6 = st_c "TurtleWorldModel" 688 2 (tw_bt 25) := by decide +kernel
theorem sl_26 : ((flatC (Jvm.Cond.and given_1 narrow_1)).drop 1323).take 6 = st_c "TurtleWorldModel" 690 2 (tw_bt 26) := by decide +kernel
theorem sl_27 : ((flatC (Jvm.Cond.and given_1 narrow_1)).drop 1329).take 5 = st_c "TurtleWorldModel" 692 1 (tw_bt 27) := by decide +kernel
theorem sl_28 : ((flatC (Jvm.Cond.and given_1 narrow_1)).drop 1334).take 6 = st_c "TurtleWorldModel" 694 2 (tw_bt 28) := by decide +kernel
theorem sl_29 : ((flatC (Jvm.Cond.and given_1 narrow_1)).drop 1340).take 6 = st_c "TurtleWorldModel" 696 2 (tw_bt 29) := by decide +kernel
theorem sl_30 : ((flatC (Jvm.Cond.and given_1 narrow_1)).drop 1346).take 7 = st_c "TurtleWorldModel" 698 3 (tw_bt 30) := by decide +kernel
theorem sl_31 : ((flatC (Jvm.Cond.and given_1 narrow_1)).drop 1353).take 6 = st_c "TurtleWorldModel" 700 2 (tw_bt 31) := by decide +kernel
theorem sl_32 : ((flatC (Jvm.Cond.and given_1 narrow_1)).drop 1359).take 6 = st_c "TurtleWorldModel" 702 2 (tw_bt 32) := by decide +kernel
theorem sl_33 : ((flatC (Jvm.Cond.and given_1 narrow_1)).drop 1365).take 4 = st_c "TurtleWorldModel" 704 0 (tw_bt 33) := by decide +kernel
theorem sa_0 : ((flatC (Jvm.Cond.and given_1 narrow_1)).drop 20).take 9 = sa_c "TurtleWorld$Machine" "SIGN_WORDS" 7 (tw_st 0) := by decide +kernel
theorem sa_1 : ((flatC (Jvm.Cond.and given_1 narrow_1)).drop 10).take 9 = sa_c "TurtleWorld$Machine" "STRENGTHS" 7 (tw_st 1) := by decide +kernel
theorem sa_2 : ((flatC (Jvm.Cond.and given_1 narrow_1)).drop 57).take 8 = sa_c "TurtleWorld$Turtles" "SLOPES" 6 (tw_st 2) := by decide +kernel
theorem sa_3 : ((flatC (Jvm.Cond.and given_1 narrow_1)).drop 30).take 26 = sa_c "TurtleWorld$Turtles" "STEPS" 24 (tw_st 3) := by decide +kernel