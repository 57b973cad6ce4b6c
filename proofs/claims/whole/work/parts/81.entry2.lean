
theorem env_E {args : Array Value} {s : State} {A : Nat → Prop} (hts : ∀ w ∈ lw_tbl, w.before args s = true) (hgv : (Jvm.Cond.and given_1 narrow_1).before args s = true) (hA : ∀ a : Nat, a < s.heap.size → ¬ A a) : ∃ adK adV adA : Nat → Nat, tw_E adK adV adA A s s.heap := by
  have hcs : va_Z "java/lang/String" "COMPACT_STRINGS" "Z" (.int 1) A s s.heap := va_Zof (hts _ (lw_i1 60 (by decide +kernel))) (hts _ (lw_i1 4 (by decide +kernel))) (va_eqi (sl_all (L := [Cond.eq (.static "java/lang/String" "COMPACT_STRINGS" "Z") (.int 1)]) (k := 4) (n := 1) hgv (by decide +kernel) _ List.mem_cons_self)) hA
  have hfm : tw_fm A s s.heap := va_Zqof (hts _ (lw_i1 76 (by decide +kernel))) (hts _ (lw_i1 6 (by decide +kernel))) (sl_all (L := [Cond.isRef (.static "jdk/internal/util/Preconditions" "SIOOBE_FORMATTER" "Ljava/util/function/BiFunction;")]) (k := 5) (n := 1) hgv (by decide +kernel) _ List.mem_cons_self) hA
  have h0 : ∀ i : Nat, ∃ q : Nat × Nat, i < 34 → vk_R (tw_tx.getD i ("", 0, "")).1 (tw_tx.getD i ("", 0, "")).2.1 (tw_tx.getD i ("", 0, "")).2.2 q.1 s ∧ tw_str q.1 q.2 (tw_len.getD i 0) (tw_bt i) A s s.heap := by
    intro i
    by_cases hi : i < 34
    · revert hi
      intro hi
      match i, hi with
      | 0, _ =>
        obtain ⟨a, v, h1, h2⟩ := st_of (A := A) (by decide) (sl_all hgv sl_0) hcs hfm hA
        exact ⟨(a, v), fun _ => ⟨vk_R.of (A := args) (show (Cond.stringRef "TurtleWorld$Heap" 35 "true").before args s = true from (hts _ (lw_i1 150 (by decide +kernel)))) h1, h2⟩⟩
      | 1, _ =>
        obtain ⟨a, v, h1, h2⟩ := st_of (A := A) (by decide) (sl_all hgv sl_1) hcs hfm hA
        exact ⟨(a, v), fun _ => ⟨vk_R.of (A := args) (show (Cond.stringRef "TurtleWorld$Heap" 44 "false").before args s = true from (hts _ (lw_i1 194 (by decide +kernel)))) h1, h2⟩⟩
      | 2, _ =>
        obtain ⟨a, v, h1, h2⟩ := st_of (A := A) (by decide) (sl_all hgv sl_2) hcs hfm hA
        exact ⟨(a, v), fun _ => ⟨vk_R.of (A := args) (show (Cond.stringRef "TurtleWorld$Heap" 49 "error").before args s = true from (hts _ (lw_i1 195 (by decide +kernel)))) h1, h2⟩⟩
      | 3, _ =>
        obtain ⟨a, v, h1, h2⟩ := st_of (A := A) (by decide) (sl_all hgv sl_3) hcs hfm hA
        exact ⟨(a, v), fun _ => ⟨vk_R.of (A := args) (show (Cond.stringRef "TurtleWorld$Lexicon" 27 "fd.n bk.n rt.n lt.n seth.n pu pd setpen.n home place.nn clean tell.n heading xcor ycor pen who dot same.nn").before args s = true from (hts _ (lw_i1 42 (by decide +kernel)))) h1, h2⟩⟩
      | 4, _ =>
        obtain ⟨a, v, h1, h2⟩ := st_of (A := A) (by decide) (sl_all hgv sl_4) hcs hfm hA
        exact ⟨(a, v), fun _ => ⟨vk_R.of (A := args) (show (Cond.stringRef "TurtleWorld$Lexicon" 33 "sum.nn difference.nn product.nn quotient.nn remainder.nn minus.n lessp.nn greaterp.nn random.n and.bb or.bb not.b").before args s = true from (hts _ (lw_i1 117 (by decide +kernel)))) h1, h2⟩⟩
      | 5, _ =>
        obtain ⟨a, v, h1, h2⟩ := st_of (A := A) (by decide) (sl_all hgv sl_5) hcs hfm hA
        exact ⟨(a, v), fun _ => ⟨vk_R.of (A := args) (show (Cond.stringRef "TurtleWorld$Lexicon" 35 "equalp.vv listp.v wordp.v numberp.v count.v emptyp.l first.l last.l butfirst.l butlast.l item.nl fput.vl lput.vl sentence.vv list.vv memberp.vl reverse.l word.tt").before args s = true from (hts _ (lw_i1 118 (by decide +kernel)))) h1, h2⟩⟩
      | 6, _ =>
        obtain ⟨a, v, h1, h2⟩ := st_of (A := A) (by decide) (sl_all hgv sl_6) hcs hfm hA
        exact ⟨(a, v), fun _ => ⟨vk_R.of (A := args) (show (Cond.stringRef "TurtleWorld$Lexicon" 37 "make.wv local.w thing.w namep.w define.wl arity.w text.w print.v show.v type.v").before args s = true from (hts _ (lw_i1 119 (by decide +kernel)))) h1, h2⟩⟩
      | 7, _ =>
        obtain ⟨a, v, h1, h2⟩ := st_of (A := A) (by decide) (sl_all hgv sl_7) hcs hfm hA
        exact ⟨(a, v), fun _ => ⟨vk_R.of (A := args) (show (Cond.stringRef "TurtleWorld$Lexicon" 39 "run.l if.bl ifelse.bll repeat.nl repcount while.ll foreach.ll ? map.ll ask.nl stop output.v catch.wl throw.w error").before args s = true from (hts _ (lw_i1 120 (by decide +kernel)))) h1, h2⟩⟩
      | 8, _ =>
        obtain ⟨a, v, h1, h2⟩ := st_of (A := A) (by decide) (sl_all hgv sl_8) hcs hfm hA
        exact ⟨(a, v), fun _ => ⟨vk_R.of (A := args) (show (Cond.stringRef "TurtleWorld$Lexicon" 41 "( ) = < > + - * / to end").before args s = true from (hts _ (lw_i1 121 (by decide +kernel)))) h1, h2⟩⟩
      | 9, _ =>
        obtain ⟨a, v, h1, h2⟩ := st_of (A := A) (by decide) (sl_all hgv sl_9) hcs hfm hA
        exact ⟨(a, v), fun _ => ⟨vk_R.of (A := args) (show (Cond.stringRef "TurtleWorldModel" 471 "to").before args s = true from (hts _ (lw_i10 54 (by decide +kernel)))) h1, h2⟩⟩
      | 10, _ =>
        obtain ⟨a, v, h1, h2⟩ := st_of (A := A) (by decide) (sl_all hgv sl_10) hcs hfm hA
        exact ⟨(a, v), fun _ => ⟨vk_R.of (A := args) (show (Cond.stringRef "TurtleWorldModel" 477 "end").before args s = true from (hts _ (lw_i10 65 (by decide +kernel)))) h1, h2⟩⟩
      | 11, _ =>
        obtain ⟨a, v, h1, h2⟩ := st_of (A := A) (by decide) (sl_all hgv sl_11) hcs hfm hA
        exact ⟨(a, v), fun _ => ⟨vk_R.of (A := args) (show (Cond.stringRef "TurtleWorldModel" 574 "true").before args s = true from (hts _ (lw_i10 150 (by decide +kernel)))) h1, h2⟩⟩
      | 12, _ =>
        obtain ⟨a, v, h1, h2⟩ := st_of (A := A) (by decide) (sl_all hgv sl_12) hcs hfm hA
        exact ⟨(a, v), fun _ => ⟨vk_R.of (A := args) (show (Cond.stringRef "TurtleWorldModel" 582 "false").before args s = true from (hts _ (lw_i10 155 (by decide +kernel)))) h1, h2⟩⟩
      | 13, _ =>
        obtain ⟨a, v, h1, h2⟩ := st_of (A := A) (by decide) (sl_all hgv sl_13) hcs hfm hA
        exact ⟨(a, v), fun _ => ⟨vk_R.of (A := args) (show (Cond.stringRef "TurtleWorldModel" 637 ")").before args s = true from (hts _ (lw_i10 184 (by decide +kernel)))) h1, h2⟩⟩
      | 14, _ =>
        obtain ⟨a, v, h1, h2⟩ := st_of (A := A) (by decide) (sl_all hgv sl_14) hcs hfm hA
        exact ⟨(a, v), fun _ => ⟨vk_R.of (A := args) (show (Cond.stringRef "TurtleWorldModel" 658 "error").before args s = true from (hts _ (lw_i11 154 (by decide +kernel)))) h1, h2⟩⟩
      | 15, _ =>
        obtain ⟨a, v, h1, h2⟩ := st_of (A := A) (by decide) (sl_all hgv sl_15) hcs hfm hA
        exact ⟨(a, v), fun _ => ⟨vk_R.of (A := args) (show (Cond.stringRef "TurtleWorldModel" 668 " fd bk rt lt seth pu pd setpen home place clean tell heading xcor ycor pen who dot same sum difference product quotient remainder minus lessp greaterp random and or not equalp listp wordp numberp count emptyp first last butfirst butlast item fput lput sentence list memberp reverse word make local thing namep define arity text run if ifelse repeat repcount while foreach ? map ask stop output catch throw error print show type ").before args s = true from (hts _ (lw_i10 70 (by decide +kernel)))) h1, h2⟩⟩
      | 16, _ =>
        obtain ⟨a, v, h1, h2⟩ := st_of (A := A) (by decide) (sl_all hgv sl_16) hcs hfm hA
        exact ⟨(a, v), fun _ => ⟨vk_R.of (A := args) (show (Cond.stringRef "TurtleWorldModel" 670 "11111001020100000022222212212212111111111222222122111211123202202201210111").before args s = true from (hts _ (lw_i10 196 (by decide +kernel)))) h1, h2⟩⟩
      | 17, _ =>
        obtain ⟨a, v, h1, h2⟩ := st_of (A := A) (by decide) (sl_all hgv sl_17) hcs hfm hA
        exact ⟨(a, v), fun _ => ⟨vk_R.of (A := args) (show (Cond.stringRef "TurtleWorldModel" 672 "n").before args s = true from (hts _ (lw_i10 220 (by decide +kernel)))) h1, h2⟩⟩
      | 18, _ =>
        obtain ⟨a, v, h1, h2⟩ := st_of (A := A) (by decide) (sl_all hgv sl_18) hcs hfm hA
        exact ⟨(a, v), fun _ => ⟨vk_R.of (A := args) (show (Cond.stringRef "TurtleWorldModel" 674 "nn").before args s = true from (hts _ (lw_i10 221 (by decide +kernel)))) h1, h2⟩⟩
      | 19, _ =>
        obtain ⟨a, v, h1, h2⟩ := st_of (A := A) (by decide) (sl_all hgv sl_19) hcs hfm hA
        exact ⟨(a, v), fun _ => ⟨vk_R.of (A := args) (show (Cond.stringRef "TurtleWorldModel" 676 "t").before args s = true from (hts _ (lw_i10 222 (by decide +kernel)))) h1, h2⟩⟩
      | 20, _ =>
        obtain ⟨a, v, h1, h2⟩ := st_of (A := A) (by decide) (sl_all hgv sl_20) hcs hfm hA
        exact ⟨(a, v), fun _ => ⟨vk_R.of (A := args) (show (Cond.stringRef "TurtleWorldModel" 678 "tt").before args s = true from (hts _ (lw_i10 223 (by decide +kernel)))) h1, h2⟩⟩
      | 21, _ =>
        obtain ⟨a, v, h1, h2⟩ := st_of (A := A) (by decide) (sl_all hgv sl_21) hcs hfm hA
        exact ⟨(a, v), fun _ => ⟨vk_R.of (A := args) (show (Cond.stringRef "TurtleWorldModel" 680 "bb").before args s = true from (hts _ (lw_i10 224 (by decide +kernel)))) h1, h2⟩⟩
      | 22, _ =>
        obtain ⟨a, v, h1, h2⟩ := st_of (A := A) (by decide) (sl_all hgv sl_22) hcs hfm hA
        exact ⟨(a, v), fun _ => ⟨vk_R.of (A := args) (show (Cond.stringRef "TurtleWorldModel" 682 "b").before args s = true from (hts _ (lw_i10 225 (by decide +kernel)))) h1, h2⟩⟩
      | 23, _ =>
        obtain ⟨a, v, h1, h2⟩ := st_of (A := A) (by decide) (sl_all hgv sl_23) hcs hfm hA
        exact ⟨(a, v), fun _ => ⟨vk_R.of (A := args) (show (Cond.stringRef "TurtleWorldModel" 684 "l").before args s = true from (hts _ (lw_i10 226 (by decide +kernel)))) h1, h2⟩⟩
      | 24, _ =>
        obtain ⟨a, v, h1, h2⟩ := st_of (A := A) (by decide) (sl_all hgv sl_24) hcs hfm hA
        exact ⟨(a, v), fun _ => ⟨vk_R.of (A := args) (show (Cond.stringRef "TurtleWorldModel" 686 "nl").before args s = true from (hts _ (lw_i10 227 (by decide +kernel)))) h1, h2⟩⟩
      | 25, _ =>
        obtain ⟨a, v, h1, h2⟩ := st_of (A := A) (by decide) (sl_all hgv sl_25) hcs hfm hA
        exact ⟨(a, v), fun _ => ⟨vk_R.of (A := args) (show (Cond.stringRef "TurtleWorldModel" 688 "vl").before args s = true from (hts _ (lw_i10 228 (by decide +kernel)))) h1, h2⟩⟩
      | 26, _ =>
        obtain ⟨a, v, h1, h2⟩ := st_of (A := A) (by decide) (sl_all hgv sl_26) hcs hfm hA
        exact ⟨(a, v), fun _ => ⟨vk_R.of (A := args) (show (Cond.stringRef "TurtleWorldModel" 690 "wv").before args s = true from (hts _ (lw_i10 229 (by decide +kernel)))) h1, h2⟩⟩
      | 27, _ =>
        obtain ⟨a, v, h1, h2⟩ := st_of (A := A) (by decide) (sl_all hgv sl_27) hcs hfm hA
        exact ⟨(a, v), fun _ => ⟨vk_R.of (A := args) (show (Cond.stringRef "TurtleWorldModel" 692 "w").before args s = true from (hts _ (lw_i10 230 (by decide +kernel)))) h1, h2⟩⟩
      | 28, _ =>
        obtain ⟨a, v, h1, h2⟩ := st_of (A := A) (by decide) (sl_all hgv sl_28) hcs hfm hA
        exact ⟨(a, v), fun _ => ⟨vk_R.of (A := args) (show (Cond.stringRef "TurtleWorldModel" 694 "wl").before args s = true from (hts _ (lw_i10 231 (by decide +kernel)))) h1, h2⟩⟩
      | 29, _ =>
        obtain ⟨a, v, h1, h2⟩ := st_of (A := A) (by decide) (sl_all hgv sl_29) hcs hfm hA
        exact ⟨(a, v), fun _ => ⟨vk_R.of (A := args) (show (Cond.stringRef "TurtleWorldModel" 696 "bl").before args s = true from (hts _ (lw_i10 232 (by decide +kernel)))) h1, h2⟩⟩
      | 30, _ =>
        obtain ⟨a, v, h1, h2⟩ := st_of (A := A) (by decide) (sl_all hgv sl_30) hcs hfm hA
        exact ⟨(a, v), fun _ => ⟨vk_R.of (A := args) (show (Cond.stringRef "TurtleWorldModel" 698 "bll").before args s = true from (hts _ (lw_i10 233 (by decide +kernel)))) h1, h2⟩⟩
      | 31, _ =>
        obtain ⟨a, v, h1, h2⟩ := st_of (A := A) (by decide) (sl_all hgv sl_31) hcs hfm hA
        exact ⟨(a, v), fun _ => ⟨vk_R.of (A := args) (show (Cond.stringRef "TurtleWorldModel" 700 "ll").before args s = true from (hts _ (lw_i10 234 (by decide +kernel)))) h1, h2⟩⟩
      | 32, _ =>
        obtain ⟨a, v, h1, h2⟩ := st_of (A := A) (by decide) (sl_all hgv sl_32) hcs hfm hA
        exact ⟨(a, v), fun _ => ⟨vk_R.of (A := args) (show (Cond.stringRef "TurtleWorldModel" 702 "tl").before args s = true from (hts _ (lw_i10 235 (by decide +kernel)))) h1, h2⟩⟩
      | 33, _ =>
        obtain ⟨a, v, h1, h2⟩ := st_of (A := A) (by decide) (sl_all hgv sl_33) hcs hfm hA
        exact ⟨(a, v), fun _ => ⟨vk_R.of (A := args) (show (Cond.stringRef "TurtleWorldModel" 704 "").before args s = true from (hts _ (lw_i10 236 (by decide +kernel)))) h1, h2⟩⟩
      | k + 34, h => exact absurd h (by omega)
    · exact ⟨(0, 0), fun h => absurd h hi⟩
  have h1 : ∀ i : Nat, ∃ t : Nat, i < 4 → va_Z (tw_sa.getD i ("", "")).1 (tw_sa.getD i ("", "")).2 "[I" (.ref t) A s s.heap ∧ va_T .int t (tw_sn.getD i 0) (fun j => .int (tw_st i j)) A s s.heap := by
    intro i
    by_cases hi : i < 4
    · match i, hi with
      | 0, _ =>
        obtain ⟨t, h1, h2⟩ := sa_of (A := A) (by decide) (sl_all hgv sa_0) (hts _ (lw_i5 116 (by decide +kernel))) (hts _ (lw_i1 19 (by decide +kernel))) hA
        exact ⟨t, fun _ => ⟨h1, h2⟩⟩
      | 1, _ =>
        obtain ⟨t, h1, h2⟩ := sa_of (A := A) (by decide) (sl_all hgv sa_1) (hts _ (lw_i5 110 (by decide +kernel))) (hts _ (lw_i1 19 (by decide +kernel))) hA
        exact ⟨t, fun _ => ⟨h1, h2⟩⟩
      | 2, _ =>
        obtain ⟨t, h1, h2⟩ := sa_of (A := A) (by decide) (sl_all hgv sa_2) (hts _ (lw_i6 58 (by decide +kernel))) (hts _ (lw_i1 13 (by decide +kernel))) hA
        exact ⟨t, fun _ => ⟨h1, h2⟩⟩
      | 3, _ =>
        obtain ⟨t, h1, h2⟩ := sa_of (A := A) (by decide) (sl_all hgv sa_3) (hts _ (lw_i6 24 (by decide +kernel))) (hts _ (lw_i1 13 (by decide +kernel))) hA
        exact ⟨t, fun _ => ⟨h1, h2⟩⟩
      | k + 4, h => exact absurd h (by omega)
    · exact ⟨0, fun h => absurd h hi⟩
  obtain ⟨ad, had⟩ := Classical.axiomOfChoice h0
  obtain ⟨aa, haa⟩ := Classical.axiomOfChoice h1
  exact ⟨fun i => (ad i).1, fun i => (ad i).2, aa, fun i hi => had i hi, fun i hi => haa i hi⟩
theorem env_N {args : Array Value} {s : State} {A : Nat → Prop} (hts : ∀ w ∈ lw_tbl, w.before args s = true) : tw_N A s s.heap := ⟨va_Nw.of rfl (hts _ (lw_i2 231 (by decide +kernel))), va_Nw.of rfl (hts _ (lw_i2 232 (by decide +kernel))), va_Nw.of rfl (hts _ (lw_i3 78 (by decide +kernel)))⟩
theorem env_X {args : Array Value} {s : State} {A : Nat → Prop} (hts : ∀ w ∈ lw_tbl, w.before args s = true) (hgv : (Jvm.Cond.and given_1 narrow_1).before args s = true) (hA : ∀ a : Nat, a < s.heap.size → ¬ A a) : tw_X A s s.heap :=
  ⟨va_Zqof (hts _ (lw_i8 21 (by decide +kernel))) (hts _ (lw_i1 22 (by decide +kernel))) (sl_all (L := [Cond.isRef (.static "java/lang/Throwable" "UNASSIGNED_STACK" "[Ljava/lang/StackTraceElement;")]) (k := 65) (n := 1) hgv (by decide +kernel) _ List.mem_cons_self) hA, va_Zqof (hts _ (lw_i8 23 (by decide +kernel))) (hts _ (lw_i1 22 (by decide +kernel))) (sl_all (L := [Cond.isRef (.static "java/lang/Throwable" "SUPPRESSED_SENTINEL" "Ljava/util/List;")]) (k := 66) (n := 1) hgv (by decide +kernel) _ List.mem_cons_self) hA, tw_ls.of (hts _ (lw_i8 21 (by decide +kernel))) hA, tw_ls.of (hts _ (lw_i8 23 (by decide +kernel))) hA, va_Nw.of rfl (hts _ (lw_i7 237 (by decide +kernel))), va_Nw.of rfl (hts _ (lw_i7 239 (by decide +kernel))), va_Nw.of rfl (hts _ (lw_i8 1 (by decide +kernel))), va_Nw.of rfl (hts _ (lw_i7 236 (by decide +kernel)))⟩
