
theorem sw_L01 (f : Nat → Int32) (cl : Nat) (a b : Int32) : ∀ (n i : Nat) (lf rt : Int32), m_Heap_sameWord_L30_r f cl a b n i lf rt = 0 ∨ m_Heap_sameWord_L30_r f cl a b n i lf rt = 1 := by
  intro n
  induction n with
  | zero => intro i lf rt; exact Or.inl rfl
  | succ n ih =>
    intro i lf rt
    simp only [m_Heap_sameWord_L30_r]
    repeat' split
    all_goals first | exact Or.inl rfl | exact Or.inr rfl | exact ih _ _ _
theorem sw_01 (f : Nat → Int32) (cl : Nat) (a b : Int32) : m_Heap_sameWord_r f cl a b = 0 ∨ m_Heap_sameWord_r f cl a b = 1 := by
  unfold m_Heap_sameWord_r
  repeat' split
  all_goals first | exact Or.inl rfl | exact Or.inr rfl | exact sw_L01 _ _ _ _ _ _ _ _
theorem z01 {x : Int32} (h : x = 0 ∨ x = 1) : narrow .boolean (.int x) = .int x := by rcases h with rfl | rfl <;> decide
theorem fl_lt (f g : Nat → Int32) (cl : Nat) (lo a b : Int32) : ∀ (n : Nat) (i : Int32), i.toInt < 1800 → (m_Names_findLocal_L7_r lo g f cl a b n i).toInt < 1800 := by
  intro n
  induction n with
  | zero => intro i hi; simp only [m_Names_findLocal_L7_r]; decide
  | succ n ih =>
    intro i hi
    simp only [m_Names_findLocal_L7_r]
    split
    · decide
    · split
      · decide
      · rename_i h1 h2
        split
        · exact ih _ (by rw [dn_step h2]; omega)
        · exact hi
theorem fl_in {f g : Nat → Int32} {cl : Nat} {lo a b : Int32} (h0 : ¬ lo < 0) (h1 : lo ≤ 1800) (h : ¬ m_Names_findLocal_r lo g f cl a b < 0) : vp_in (m_Names_findLocal_r lo g f cl a b) 1800 := by
  have q : (m_Names_findLocal_r lo g f cl a b).toInt < 1800 := by unfold m_Names_findLocal_r; exact fl_lt _ _ _ _ _ _ _ _ (by rw [sub1 h0]; simp only [Int32.le_iff_toInt_le, Int32.reduceToInt] at h1; omega)
  rw [vp_in_iff]
  simp only [Int32.lt_iff_toInt_lt, Int32.reduceToInt] at h
  omega
theorem fg_lt (f g : Nat → Int32) (cl : Nat) (gl a : Int32) (hg : gl ≤ 64) : ∀ (n i : Nat), ((i : Int) ≤ gl.toInt ∨ i = 0) → (m_Names_findGlobal_L2_r gl g f cl a n i).toInt < 64 := by
  simp only [Int32.le_iff_toInt_le, Int32.reduceToInt] at hg
  intro n
  induction n with
  | zero => intro i hi; simp only [m_Names_findGlobal_L2_r]; decide
  | succ n ih =>
    intro i hi
    simp only [m_Names_findGlobal_L2_r]
    split
    · decide
    · rename_i h1
      have hi2 : (nI i).toInt = i := nI_toInt (by rcases hi with hi | hi <;> omega)
      rw [Int32.le_iff_toInt_le, hi2] at h1
      split
      · exact ih _ (Or.inl (by omega))
      · rw [hi2]; omega
theorem fg_in {f g : Nat → Int32} {cl : Nat} {gl a : Int32} (hg : gl ≤ 64) (h : ¬ m_Names_findGlobal_r gl g f cl a < 0) : vp_in (m_Names_findGlobal_r gl g f cl a) 64 := by
  have q : (m_Names_findGlobal_r gl g f cl a).toInt < 64 := by unfold m_Names_findGlobal_r; exact fg_lt _ _ _ _ _ hg _ _ (Or.inr rfl)
  rw [vp_in_iff]
  simp only [Int32.lt_iff_toInt_lt, Int32.reduceToInt] at h
  omega
theorem fp_lt (f g : Nat → Int32) (cl : Nat) (gl a : Int32) (hg : gl ≤ 40) : ∀ (n i : Nat), ((i : Int) ≤ gl.toInt ∨ i = 0) → (m_Procedures_find_L2_r gl g f cl a n i).toInt < 40 := by
  simp only [Int32.le_iff_toInt_le, Int32.reduceToInt] at hg
  intro n
  induction n with
  | zero => intro i hi; simp only [m_Procedures_find_L2_r]; decide
  | succ n ih =>
    intro i hi
    simp only [m_Procedures_find_L2_r]
    split
    · decide
    · rename_i h1
      have hi2 : (nI i).toInt = i := nI_toInt (by rcases hi with hi | hi <;> omega)
      rw [Int32.le_iff_toInt_le, hi2] at h1
      split
      · exact ih _ (Or.inl (by omega))
      · rw [hi2]; omega
theorem fp_in {f g : Nat → Int32} {cl : Nat} {gl a : Int32} (hg : gl ≤ 40) (h : ¬ m_Procedures_find_r gl g f cl a < 0) : vp_in (m_Procedures_find_r gl g f cl a) 40 := by
  have q : (m_Procedures_find_r gl g f cl a).toInt < 40 := by unfold m_Procedures_find_r; exact fp_lt _ _ _ _ _ hg _ _ (Or.inr rfl)
  rw [vp_in_iff]
  simp only [Int32.lt_iff_toInt_lt, Int32.reduceToInt] at h
  omega
