theorem inst_World : Cond.instantiable "TurtleWorld" 13 ∈ tw_T := tw_i1 27 (by decide +kernel) (by decide +kernel)
theorem inst_Model : Cond.instantiable "TurtleWorldModel" 127 ∈ tw_T := tw_i8 68 (by decide +kernel) (by decide +kernel)
theorem ac_of {args : Array Value} {s : State} {ty : FieldType} (h : (Cond.arrayClass ty).before args s = true) : ∃ cA : ClassId, ArrOfT s cA ty ∧ s.vm.findClass ("[" ++ ty.toString) = some cA := by
  obtain ⟨c, k, comp, h1, h2, h3⟩ := Cond.arrayClass_spec h
  exact ⟨c, fun n z => by simp [State.isArrayOf, arrV, h2, h3], h1⟩

theorem law_known {args : Array Value} {s : State} (htt : ∀ w ∈ tw_T, w.before args s = true) : ∃ (dC : Nat → ClassId) (dI : Nat → Nat → Nat) (cI cJ cB : ClassId), va_K (dC, dI) classes [(cI, .int), (cJ, .long), (cB, .byte)] s := by
  obtain ⟨c0, iS0, hKn0⟩ := u_known (C := R_World) (T := F_World) (N := 13) (n := 13) htt iw_World (htt _ inst_World)
  obtain ⟨c1, iS1, hKn1⟩ := u_known (C := R_Heap) (T := F_Heap) (N := 12) (n := 12) htt iw_Heap (htt _ inst_Heap)
  obtain ⟨c2, iS2, hKn2⟩ := u_known (C := R_Lexicon) (T := F_Lexicon) (N := 7) (n := 7) htt iw_Lexicon (htt _ inst_Lexicon)
  obtain ⟨c3, iS3, hKn3⟩ := u_known (C := R_Names) (T := F_Names) (N := 9) (n := 9) htt iw_Names (htt _ inst_Names)
  obtain ⟨c4, iS4, hKn4⟩ := u_known (C := R_Procedures) (T := F_Procedures) (N := 8) (n := 8) htt iw_Procedures (htt _ inst_Procedures)
  obtain ⟨c5, iS5, hKn5⟩ := u_known (C := R_Turtles) (T := F_Turtles) (N := 8) (n := 8) htt iw_Turtles (htt _ inst_Turtles)
  obtain ⟨c6, iS6, hKn6⟩ := u_known (C := R_Output) (T := F_Output) (N := 11) (n := 11) htt iw_Output (htt _ inst_Output)
  obtain ⟨c7, iS7, hKn7⟩ := u_known (C := R_Reader) (T := F_Reader) (N := 19) (n := 19) htt iw_Reader (htt _ inst_Reader)
  obtain ⟨c8, iS8, hKn8⟩ := u_known (C := R_Line) (T := F_Line) (N := 18) (n := 18) htt iw_Line (htt _ inst_Line)
  obtain ⟨c9, iS9, hKn9⟩ := u_known (C := R_Waiting) (T := F_Waiting) (N := 11) (n := 11) htt iw_Waiting (htt _ inst_Waiting)
  obtain ⟨c10, iS10, hKn10⟩ := u_known (C := R_Deeds) (T := F_Deeds) (N := 8) (n := 8) htt iw_Deeds (htt _ inst_Deeds)
  obtain ⟨c11, iS11, hKn11⟩ := u_known (C := R_Machine) (T := F_Machine) (N := 9) (n := 9) htt iw_Machine (htt _ inst_Machine)
  obtain ⟨c12, iS12, hKn12⟩ := u_known (C := R_Model) (T := F_Model) (N := 127) (n := 127) htt iw_Model (htt _ inst_Model)
  obtain ⟨cI, a1, b1⟩ := ac_of (htt _ ac_int)
  obtain ⟨cJ, a2, b2⟩ := ac_of (htt _ ac_long)
  obtain ⟨cB, a3, b3⟩ := ac_of (htt _ ac_byte)
  refine ⟨fun k => if k = 0 then c0 else if k = 1 then c1 else if k = 2 then c2 else if k = 3 then c3 else if k = 4 then c4 else if k = 5 then c5 else if k = 6 then c6 else if k = 7 then c7 else if k = 8 then c8 else if k = 9 then c9 else if k = 10 then c10 else if k = 11 then c11 else c12, fun k => if k = 0 then iS0 else if k = 1 then iS1 else if k = 2 then iS2 else if k = 3 then iS3 else if k = 4 then iS4 else if k = 5 then iS5 else if k = 6 then iS6 else if k = 7 then iS7 else if k = 8 then iS8 else if k = 9 then iS9 else if k = 10 then iS10 else if k = 11 then iS11 else iS12, cI, cJ, cB, ?_, ?_⟩
  · intro k q hq
    match k, hq with
    | 0, hq => cases hq; exact hKn0
    | 1, hq => cases hq; exact hKn1
    | 2, hq => cases hq; exact hKn2
    | 3, hq => cases hq; exact hKn3
    | 4, hq => cases hq; exact hKn4
    | 5, hq => cases hq; exact hKn5
    | 6, hq => cases hq; exact hKn6
    | 7, hq => cases hq; exact hKn7
    | 8, hq => cases hq; exact hKn8
    | 9, hq => cases hq; exact hKn9
    | 10, hq => cases hq; exact hKn10
    | 11, hq => cases hq; exact hKn11
    | 12, hq => cases hq; exact hKn12
    | k + 13, hq => simp [classes] at hq
  · intro k q hq
    match k, hq with
    | 0, hq => cases hq; exact ⟨a1, b1⟩
    | 1, hq => cases hq; exact ⟨a2, b2⟩
    | 2, hq => cases hq; exact ⟨a3, b3⟩
    | k + 3, hq => simp at hq
