/-! each word for turtles in the reference -/
theorem r_tur1 {n : Nat} {i : Nat → Int32} {j : Nat → Int64} {a : Nat → Nat → Int32} {b : Nat → Nat → Int64} {B : RB4} {G : GS} {x y : Int} {v2 v3 : Int32} (hn : 5000 ≤ n) (hT : rTu i a G) (hg : gOk G) (hx : v2 = Int32.ofInt x ∧ -1000000000 ≤ x ∧ x ≤ 1000000000) : rTurt i j a b B (aTurtle 1 x y G) (m_Model_turtles n i j a b (nI 0) v2 v3) := by
  have ht8 : gTold G < 8 := hg.1
  obtain ⟨p1, p2, p3, p4, p5, p6⟩ := hg.2.2.2.2.1 (gTold G) ht8
  have cl : (nI (gTold G)).toNatClampNeg = gTold G := cl_n (by omega)
  have w : ∀ (α : Type) (o : Option α), ck (nI (gTold G)) 8 o = o := fun α o => ck_n ⟨ht8, by decide⟩
  have h47 : i 47 = nI (gTold G) := hT.2.2
  obtain ⟨rfl, x1, x2⟩ := hx
  generalize hA : aTurtle 1 x y G = A
  unfold m_Model_turtles
  rw [ob1_s, h47, if_pos (by decide)]
  subst hA
  unfold aTurtle
  dsimp only
  rw [if_pos rfl, show (1000 : Int32) = Int32.ofInt 1000 from rfl, show (-Int32.ofInt 1000 : Int32) = Int32.ofInt (-1000) by decide]
  have f3 : m_Model_turtles_b106 n i j a b = some (rFail i 3, j, a, b, 3) := rfl
  rcases Classical.em (x < -1000) with c | c
  · rw [if_pos ((I_lt (by omega) (by omega)).mpr c), f3]
    unfold aFwd
    rw [if_pos (by omega)]
    exact (rfl)
  rw [if_neg (fun e => c ((I_lt (by omega) (by omega)).mp e))]
  rcases Classical.em (x ≤ 1000) with d | d
  · rw [if_pos ((I_le (by omega) (by omega)).mpr d), if_pos (by decide)]
    exact rTurt_go (n := n) (r_steps (by omega) hT hg (by omega))
  · rw [if_neg (fun e => d ((I_le (by omega) (by omega)).mp e)), f3]
    unfold aFwd
    rw [if_pos (by omega)]
    exact (rfl)
theorem r_tur2 {n : Nat} {i : Nat → Int32} {j : Nat → Int64} {a : Nat → Nat → Int32} {b : Nat → Nat → Int64} {B : RB4} {G : GS} {x y : Int} {v2 v3 : Int32} (hn : 5000 ≤ n) (hT : rTu i a G) (hg : gOk G) (hx : v2 = Int32.ofInt x ∧ -1000000000 ≤ x ∧ x ≤ 1000000000) : rTurt i j a b B (aTurtle 2 x y G) (m_Model_turtles n i j a b (nI 1) v2 v3) := by
  have ht8 : gTold G < 8 := hg.1
  obtain ⟨p1, p2, p3, p4, p5, p6⟩ := hg.2.2.2.2.1 (gTold G) ht8
  have cl : (nI (gTold G)).toNatClampNeg = gTold G := cl_n (by omega)
  have w : ∀ (α : Type) (o : Option α), ck (nI (gTold G)) 8 o = o := fun α o => ck_n ⟨ht8, by decide⟩
  have h47 : i 47 = nI (gTold G) := hT.2.2
  obtain ⟨rfl, x1, x2⟩ := hx
  generalize hA : aTurtle 2 x y G = A
  unfold m_Model_turtles
  rw [ob1_s, h47, if_neg (by decide), if_pos (by decide)]
  subst hA
  unfold aTurtle
  dsimp only
  rw [if_neg (by decide), if_pos rfl, show (1000 : Int32) = Int32.ofInt 1000 from rfl, show (-Int32.ofInt 1000 : Int32) = Int32.ofInt (-1000) by decide]
  have f3 : m_Model_turtles_b106 n i j a b = some (rFail i 3, j, a, b, 3) := rfl
  rcases Classical.em (x < -1000) with c | c
  · rw [if_pos ((I_lt (by omega) (by omega)).mpr c), f3]
    unfold aFwd
    rw [if_pos (by omega)]
    exact (rfl)
  rw [if_neg (fun e => c ((I_lt (by omega) (by omega)).mp e))]
  rcases Classical.em (x ≤ 1000) with d | d
  · rw [if_pos ((I_le (by omega) (by omega)).mpr d), if_neg (by decide), ← Int32.ofInt_neg]
    exact rTurt_go (n := n) (r_steps (by omega) hT hg (by omega))
  · rw [if_neg (fun e => d ((I_le (by omega) (by omega)).mp e)), f3]
    unfold aFwd
    rw [if_pos (by omega)]
    exact (rfl)
theorem r_tur3 {n : Nat} {i : Nat → Int32} {j : Nat → Int64} {a : Nat → Nat → Int32} {b : Nat → Nat → Int64} {B : RB4} {G : GS} {x y : Int} {v2 v3 : Int32} (hn : 5000 ≤ n) (hT : rTu i a G) (hg : gOk G) (hx : v2 = Int32.ofInt x ∧ -1000000000 ≤ x ∧ x ≤ 1000000000) : rTurt i j a b B (aTurtle 3 x y G) (m_Model_turtles n i j a b (nI 2) v2 v3) := by
  have ht8 : gTold G < 8 := hg.1
  obtain ⟨p1, p2, p3, p4, p5, p6⟩ := hg.2.2.2.2.1 (gTold G) ht8
  have cl : (nI (gTold G)).toNatClampNeg = gTold G := cl_n (by omega)
  have w : ∀ (α : Type) (o : Option α), ck (nI (gTold G)) 8 o = o := fun α o => ck_n ⟨ht8, by decide⟩
  have h47 : i 47 = nI (gTold G) := hT.2.2
  obtain ⟨rfl, x1, x2⟩ := hx
  have r41 : a 41 (gTold G) = Int32.ofInt (pI G (gTold G) 4) := by rw [← pI_of]; exact hT.1 _ 4 ht8 (by decide)
  have td := i32_tdiv (x := x) (y := 30) (by omega) (by omega)
  have tr := i32_trem (x := x) (y := 30) (by omega) (by omega)
  have tb : -1000000000 ≤ x.tmod 30 ∧ x.tmod 30 ≤ 1000000000 := by
    have h1 : (x.tmod 30).natAbs ≤ x.natAbs := by
      rw [Int.natAbs_tmod]
      exact Nat.mod_le _ _
    omega
  generalize hA : aTurtle 3 x y G = A
  unfold m_Model_turtles
  rw [ob1_s, h47, if_neg (by decide), if_neg (by decide), if_pos (by decide)]
  subst hA
  unfold aTurtle
  dsimp only
  rw [if_neg (by decide), if_neg (by decide), if_pos rfl, show (30 : Int32) = Int32.ofInt 30 from rfl, tr]
  unfold aTurn
  skip
  rcases Classical.em (x.tmod 30 = 0) with c | c
  · rw [if_pos ((i32_zero tb).mpr c), if_neg (show ¬ (x.tmod 30 ≠ 0) by omega), td.1, if_neg (by decide), if_pos (by decide), w, cl, r41, ← Int32.ofInt_add]
    unfold m_Model_turtles_b194
    rw [h_floorMod (by omega), ob0_s, w, ob1_s, cl]
    refine ⟨i, _, 3, rfl, ?_, fun _ _ => rfl, fun q h9 => updA_ne (by omega), rfl⟩
    skip
    exact rTu_P (k := 4) hT ht8 (by decide)
  · rw [if_neg (fun e => c ((i32_zero tb).mp e)), if_pos (show (x.tmod 30 ≠ 0) by omega)]
    exact (rfl)
theorem r_tur4 {n : Nat} {i : Nat → Int32} {j : Nat → Int64} {a : Nat → Nat → Int32} {b : Nat → Nat → Int64} {B : RB4} {G : GS} {x y : Int} {v2 v3 : Int32} (hn : 5000 ≤ n) (hT : rTu i a G) (hg : gOk G) (hx : v2 = Int32.ofInt x ∧ -1000000000 ≤ x ∧ x ≤ 1000000000) : rTurt i j a b B (aTurtle 4 x y G) (m_Model_turtles n i j a b (nI 3) v2 v3) := by
  have ht8 : gTold G < 8 := hg.1
  obtain ⟨p1, p2, p3, p4, p5, p6⟩ := hg.2.2.2.2.1 (gTold G) ht8
  have cl : (nI (gTold G)).toNatClampNeg = gTold G := cl_n (by omega)
  have w : ∀ (α : Type) (o : Option α), ck (nI (gTold G)) 8 o = o := fun α o => ck_n ⟨ht8, by decide⟩
  have h47 : i 47 = nI (gTold G) := hT.2.2
  obtain ⟨rfl, x1, x2⟩ := hx
  have r41 : a 41 (gTold G) = Int32.ofInt (pI G (gTold G) 4) := by rw [← pI_of]; exact hT.1 _ 4 ht8 (by decide)
  have td := i32_tdiv (x := x) (y := 30) (by omega) (by omega)
  have tr := i32_trem (x := x) (y := 30) (by omega) (by omega)
  have tb : -1000000000 ≤ x.tmod 30 ∧ x.tmod 30 ≤ 1000000000 := by
    have h1 : (x.tmod 30).natAbs ≤ x.natAbs := by
      rw [Int.natAbs_tmod]
      exact Nat.mod_le _ _
    omega
  generalize hA : aTurtle 4 x y G = A
  unfold m_Model_turtles
  rw [ob1_s, h47, if_neg (by decide), if_neg (by decide), if_neg (by decide), if_pos (by decide)]
  subst hA
  unfold aTurtle
  dsimp only
  rw [if_neg (by decide), if_neg (by decide), if_neg (by decide), if_pos rfl, show (30 : Int32) = Int32.ofInt 30 from rfl, tr]
  unfold aTurn
  rw [Int.neg_tmod, Int.neg_tdiv]
  rcases Classical.em (x.tmod 30 = 0) with c | c
  · rw [if_pos ((i32_zero tb).mpr c), if_neg (show ¬ (-(x.tmod 30) ≠ 0) by omega), td.1, if_neg (by decide), if_neg (by decide), w, cl, r41, ← Int32.ofInt_sub]
    unfold m_Model_turtles_b194
    rw [h_floorMod (by omega), ob0_s, w, ob1_s, cl]
    refine ⟨i, _, 3, rfl, ?_, fun _ _ => rfl, fun q h9 => updA_ne (by omega), rfl⟩
    rw [show pI G (gTold G) 4 + -(x.tdiv 30) = pI G (gTold G) 4 - x.tdiv 30 by omega]
    exact rTu_P (k := 4) hT ht8 (by decide)
  · rw [if_neg (fun e => c ((i32_zero tb).mp e)), if_pos (show (-(x.tmod 30) ≠ 0) by omega)]
    exact (rfl)
theorem r_tur5 {n : Nat} {i : Nat → Int32} {j : Nat → Int64} {a : Nat → Nat → Int32} {b : Nat → Nat → Int64} {B : RB4} {G : GS} {x y : Int} {v2 v3 : Int32} (hn : 5000 ≤ n) (hT : rTu i a G) (hg : gOk G) (hx : v2 = Int32.ofInt x ∧ -1000000000 ≤ x ∧ x ≤ 1000000000) : rTurt i j a b B (aTurtle 5 x y G) (m_Model_turtles n i j a b (nI 4) v2 v3) := by
  have ht8 : gTold G < 8 := hg.1
  obtain ⟨p1, p2, p3, p4, p5, p6⟩ := hg.2.2.2.2.1 (gTold G) ht8
  have cl : (nI (gTold G)).toNatClampNeg = gTold G := cl_n (by omega)
  have w : ∀ (α : Type) (o : Option α), ck (nI (gTold G)) 8 o = o := fun α o => ck_n ⟨ht8, by decide⟩
  have h47 : i 47 = nI (gTold G) := hT.2.2
  obtain ⟨rfl, x1, x2⟩ := hx
  have r41 : a 41 (gTold G) = Int32.ofInt (pI G (gTold G) 4) := by rw [← pI_of]; exact hT.1 _ 4 ht8 (by decide)
  have td := i32_tdiv (x := x) (y := 30) (by omega) (by omega)
  have tr := i32_trem (x := x) (y := 30) (by omega) (by omega)
  have tb : -1000000000 ≤ x.tmod 30 ∧ x.tmod 30 ≤ 1000000000 := by
    have h1 : (x.tmod 30).natAbs ≤ x.natAbs := by
      rw [Int.natAbs_tmod]
      exact Nat.mod_le _ _
    omega
  generalize hA : aTurtle 5 x y G = A
  unfold m_Model_turtles
  rw [ob1_s, h47, if_neg (by decide), if_neg (by decide), if_neg (by decide), if_neg (by decide), if_pos (by decide)]
  subst hA
  unfold aTurtle
  dsimp only
  rw [if_neg (by decide), if_neg (by decide), if_neg (by decide), if_neg (by decide), if_pos rfl, show (30 : Int32) = Int32.ofInt 30 from rfl, tr]
  unfold aTurn
  skip
  rcases Classical.em (x.tmod 30 = 0) with c | c
  · rw [if_pos ((i32_zero tb).mpr c), if_neg (show ¬ (x.tmod 30 ≠ 0) by omega), td.1, if_pos (by decide)]
    unfold m_Model_turtles_b194
    rw [h_floorMod (by omega), ob0_s, w, ob1_s, cl]
    refine ⟨i, _, 3, rfl, ?_, fun _ _ => rfl, fun q h9 => updA_ne (by omega), rfl⟩
    rw [Int.zero_add]
    exact rTu_P (k := 4) hT ht8 (by decide)
  · rw [if_neg (fun e => c ((i32_zero tb).mp e)), if_pos (show (x.tmod 30 ≠ 0) by omega)]
    exact (rfl)
theorem r_tur6 {n : Nat} {i : Nat → Int32} {j : Nat → Int64} {a : Nat → Nat → Int32} {b : Nat → Nat → Int64} {B : RB4} {G : GS} {x y : Int} {v2 v3 : Int32} (hn : 5000 ≤ n) (hT : rTu i a G) (hg : gOk G) : rTurt i j a b B (aTurtle 6 x y G) (m_Model_turtles n i j a b (nI 5) v2 v3) := by
  have ht8 : gTold G < 8 := hg.1
  obtain ⟨p1, p2, p3, p4, p5, p6⟩ := hg.2.2.2.2.1 (gTold G) ht8
  have cl : (nI (gTold G)).toNatClampNeg = gTold G := cl_n (by omega)
  have w : ∀ (α : Type) (o : Option α), ck (nI (gTold G)) 8 o = o := fun α o => ck_n ⟨ht8, by decide⟩
  have h47 : i 47 = nI (gTold G) := hT.2.2
  generalize hA : aTurtle 6 x y G = A
  unfold m_Model_turtles
  rw [ob1_s, h47, if_neg (by decide), if_neg (by decide), if_neg (by decide), if_neg (by decide), if_neg (by decide), if_pos (by decide)]
  subst hA
  unfold aTurtle
  dsimp only
  rw [if_neg (by decide), if_neg (by decide), if_neg (by decide), if_neg (by decide), if_neg (by decide), if_pos rfl, if_neg (by decide), w, ob1_s, cl]
  exact ⟨i, _, 3, rfl, rTu_P (k := 6) (v := 0) hT ht8 (by decide), fun _ _ => rfl, fun q h9 => updA_ne (by omega), rfl⟩
theorem r_tur7 {n : Nat} {i : Nat → Int32} {j : Nat → Int64} {a : Nat → Nat → Int32} {b : Nat → Nat → Int64} {B : RB4} {G : GS} {x y : Int} {v2 v3 : Int32} (hn : 5000 ≤ n) (hT : rTu i a G) (hg : gOk G) : rTurt i j a b B (aTurtle 7 x y G) (m_Model_turtles n i j a b (nI 6) v2 v3) := by
  have ht8 : gTold G < 8 := hg.1
  obtain ⟨p1, p2, p3, p4, p5, p6⟩ := hg.2.2.2.2.1 (gTold G) ht8
  have cl : (nI (gTold G)).toNatClampNeg = gTold G := cl_n (by omega)
  have w : ∀ (α : Type) (o : Option α), ck (nI (gTold G)) 8 o = o := fun α o => ck_n ⟨ht8, by decide⟩
  have h47 : i 47 = nI (gTold G) := hT.2.2
  generalize hA : aTurtle 7 x y G = A
  unfold m_Model_turtles
  rw [ob1_s, h47, if_neg (by decide), if_neg (by decide), if_neg (by decide), if_neg (by decide), if_neg (by decide), if_neg (by decide), if_pos (by decide)]
  subst hA
  unfold aTurtle
  dsimp only
  rw [if_neg (by decide), if_neg (by decide), if_neg (by decide), if_neg (by decide), if_neg (by decide), if_neg (by decide), if_pos rfl, if_pos (by decide), w, ob1_s, cl]
  exact ⟨i, _, 3, rfl, rTu_P (k := 6) (v := 1) hT ht8 (by decide), fun _ _ => rfl, fun q h9 => updA_ne (by omega), rfl⟩
theorem r_tur8 {n : Nat} {i : Nat → Int32} {j : Nat → Int64} {a : Nat → Nat → Int32} {b : Nat → Nat → Int64} {B : RB4} {G : GS} {x y : Int} {v2 v3 : Int32} (hn : 5000 ≤ n) (hT : rTu i a G) (hg : gOk G) (hx : v2 = Int32.ofInt x ∧ -1000000000 ≤ x ∧ x ≤ 1000000000) : rTurt i j a b B (aTurtle 8 x y G) (m_Model_turtles n i j a b (nI 7) v2 v3) := by
  have ht8 : gTold G < 8 := hg.1
  obtain ⟨p1, p2, p3, p4, p5, p6⟩ := hg.2.2.2.2.1 (gTold G) ht8
  have cl : (nI (gTold G)).toNatClampNeg = gTold G := cl_n (by omega)
  have w : ∀ (α : Type) (o : Option α), ck (nI (gTold G)) 8 o = o := fun α o => ck_n ⟨ht8, by decide⟩
  have h47 : i 47 = nI (gTold G) := hT.2.2
  obtain ⟨rfl, x1, x2⟩ := hx
  generalize hA : aTurtle 8 x y G = A
  unfold m_Model_turtles
  rw [ob1_s, h47, if_neg (by decide), if_neg (by decide), if_neg (by decide), if_neg (by decide), if_neg (by decide), if_neg (by decide), if_neg (by decide), if_pos (by decide)]
  subst hA
  unfold aTurtle
  dsimp only
  rw [if_neg (by decide), if_neg (by decide), if_neg (by decide), if_neg (by decide), if_neg (by decide), if_neg (by decide), if_neg (by decide), if_pos rfl, show (0 : Int32) = Int32.ofInt 0 from rfl, show (7 : Int32) = Int32.ofInt 7 from rfl]
  rcases Classical.em (x < 0) with c | c
  · rw [if_pos ((I_lt (by omega) (by omega)).mpr c), if_pos (Or.inl c)]
    exact (rfl)
  rw [if_neg (fun e => c ((I_lt (by omega) (by omega)).mp e))]
  rcases Classical.em (x ≤ 7) with d | d
  · rw [if_pos ((I_le (by omega) (by omega)).mpr d), if_neg (show ¬ (x < 0 ∨ 7 < x) by omega), w, ob1_s, cl]
    exact ⟨i, _, 3, rfl, rTu_P (k := 5) hT ht8 (by decide), fun _ _ => rfl, fun q h9 => updA_ne (by omega), rfl⟩
  · rw [if_neg (fun e => d ((I_le (by omega) (by omega)).mp e)), if_pos (show (x < 0 ∨ 7 < x) by omega)]
    exact (rfl)
theorem r_tur9 {n : Nat} {i : Nat → Int32} {j : Nat → Int64} {a : Nat → Nat → Int32} {b : Nat → Nat → Int64} {B : RB4} {G : GS} {x y : Int} {v2 v3 : Int32} (hn : 5000 ≤ n) (hT : rTu i a G) (hg : gOk G) : rTurt i j a b B (aTurtle 9 x y G) (m_Model_turtles n i j a b (nI 8) v2 v3) := by
  have ht8 : gTold G < 8 := hg.1
  obtain ⟨p1, p2, p3, p4, p5, p6⟩ := hg.2.2.2.2.1 (gTold G) ht8
  have cl : (nI (gTold G)).toNatClampNeg = gTold G := cl_n (by omega)
  have w : ∀ (α : Type) (o : Option α), ck (nI (gTold G)) 8 o = o := fun α o => ck_n ⟨ht8, by decide⟩
  have h47 : i 47 = nI (gTold G) := hT.2.2
  generalize hA : aTurtle 9 x y G = A
  unfold m_Model_turtles
  rw [ob1_s, h47, if_neg (by decide), if_neg (by decide), if_neg (by decide), if_neg (by decide), if_neg (by decide), if_neg (by decide), if_neg (by decide), if_neg (by decide), if_pos (by decide)]
  subst hA
  unfold aTurtle
  dsimp only
  rw [if_neg (by decide), if_neg (by decide), if_neg (by decide), if_neg (by decide), if_neg (by decide), if_neg (by decide), if_neg (by decide), if_neg (by decide), if_pos rfl]
  have e0 := r_set (n := n) (i := i) (j := j) (a := a) (b := b) (x := fun _ => 0) ht8
  rw [show (0 : Int32) = Int32.ofInt ((fun _ : Nat => (0 : Int)) 0) from rfl]
  refine (congrArg (fun z => rTurt i j a b B _ (om z _)) (show _ = _ from e0)).mpr ?_
  rw [om_s, w, ob1_s, cl]
  refine ⟨i, _, 3, rfl, ?_, fun _ _ => rfl, fun q h9 => ?_, rfl⟩
  · have h1 := rTu_P (k := 4) (v := 0) hT ht8 (by decide)
    have h2 := rTu_4 (x := fun _ => 0) h1 ht8
    have e : sv (tur4 a (gTold G) (fun _ => 0)) 41 (gTold G) (Int32.ofInt 0) = tur4 (sv a (37 + 4) (gTold G) (Int32.ofInt 0)) (gTold G) (fun _ => 0) := by
      funext q
      rcases Classical.em (q = 41) with c | c
      · subst c; rfl
      · show updA _ 41 _ q = _
        rw [updA_ne c]
        unfold tur4
        show _ = if _ then upd (updA a 41 _ q) _ _ else updA a 41 _ q
        rw [updA_ne c]
    show rTu i (sv (tur4 a (gTold G) (fun _ => 0)) 41 (gTold G) (Int32.ofInt 0)) _
    rw [e]
    exact h2
  · show updA (tur4 a (gTold G) _) 41 _ q = a q
    rw [updA_ne (by omega)]
    unfold tur4
    rw [if_neg (by omega)]
theorem r_tur10 {n : Nat} {i : Nat → Int32} {j : Nat → Int64} {a : Nat → Nat → Int32} {b : Nat → Nat → Int64} {B : RB4} {G : GS} {x y : Int} {v2 v3 : Int32} (hn : 5000 ≤ n) (hT : rTu i a G) (hg : gOk G) (hx : v2 = Int32.ofInt x ∧ -1000000000 ≤ x ∧ x ≤ 1000000000) (hy : v3 = Int32.ofInt y ∧ -1000000000 ≤ y ∧ y ≤ 1000000000) : rTurt i j a b B (aTurtle 10 x y G) (m_Model_turtles n i j a b (nI 9) v2 v3) := by
  have ht8 : gTold G < 8 := hg.1
  obtain ⟨p1, p2, p3, p4, p5, p6⟩ := hg.2.2.2.2.1 (gTold G) ht8
  have cl : (nI (gTold G)).toNatClampNeg = gTold G := cl_n (by omega)
  have w : ∀ (α : Type) (o : Option α), ck (nI (gTold G)) 8 o = o := fun α o => ck_n ⟨ht8, by decide⟩
  have h47 : i 47 = nI (gTold G) := hT.2.2
  obtain ⟨rfl, x1, x2⟩ := hx
  obtain ⟨rfl, y1, y2⟩ := hy
  generalize hA : aTurtle 10 x y G = A
  unfold m_Model_turtles
  rw [ob1_s, h47, if_neg (by decide), if_neg (by decide), if_neg (by decide), if_neg (by decide), if_neg (by decide), if_neg (by decide), if_neg (by decide), if_neg (by decide), if_neg (by decide), if_pos (by decide)]
  subst hA
  unfold aTurtle
  dsimp only
  rw [if_neg (by decide), if_neg (by decide), if_neg (by decide), if_neg (by decide), if_neg (by decide), if_neg (by decide), if_neg (by decide), if_neg (by decide), if_neg (by decide), if_pos rfl, show (30000 : Int32) = Int32.ofInt 30000 from rfl, show (-Int32.ofInt 30000 : Int32) = Int32.ofInt (-30000) by decide]
  rcases Classical.em (x < -30000) with c | c
  · rw [if_pos ((I_lt (by omega) (by omega)).mpr c), if_pos (Or.inl c)]
    exact (rfl)
  rw [if_neg (fun e => c ((I_lt (by omega) (by omega)).mp e))]
  rcases Classical.em (30000 < x) with c1 | c1
  · rw [if_pos ((I_lt (by omega) (by omega)).mpr c1), if_pos (Or.inr (Or.inl c1))]
    exact (rfl)
  rw [if_neg (fun e => c1 ((I_lt (by omega) (by omega)).mp e))]
  rcases Classical.em (y < -30000) with c2 | c2
  · rw [if_pos ((I_lt (by omega) (by omega)).mpr c2), if_pos (Or.inr (Or.inr (Or.inl c2)))]
    exact (rfl)
  rw [if_neg (fun e => c2 ((I_lt (by omega) (by omega)).mp e))]
  rcases Classical.em (y ≤ 30000) with c3 | c3
  · rw [if_pos ((I_le (by omega) (by omega)).mpr c3), if_neg (show ¬ (x < -30000 ∨ 30000 < x ∨ y < -30000 ∨ 30000 < y) by omega), show (2 : Int32) = Int32.ofInt 2 from rfl, ← Int32.ofInt_mul, ← Int32.ofInt_mul]
    have e0 := r_set (n := n) (i := i) (j := j) (a := a) (b := b) (x := fun k => if k = 0 then 2 * x else if k = 2 then 2 * y else 0) ht8
    refine (congrArg (fun z => rTurt i j a b B _ (om z _)) (show _ = _ from e0)).mpr ?_
    rw [om_s]
    refine ⟨i, _, 3, rfl, rTu_4 hT ht8, fun _ _ => rfl, fun q h9 => ?_, rfl⟩
    unfold tur4
    rw [if_neg (by omega)]
  · rw [if_neg (fun e => c3 ((I_le (by omega) (by omega)).mp e)), if_pos (show (x < -30000 ∨ 30000 < x ∨ y < -30000 ∨ 30000 < y) by omega)]
    exact (rfl)
theorem r_tur11 {n : Nat} {i : Nat → Int32} {j : Nat → Int64} {a : Nat → Nat → Int32} {b : Nat → Nat → Int64} {B : RB4} {G : GS} {x y : Int} {v2 v3 : Int32} (hn : 5000 ≤ n) (hT : rTu i a G) (hg : gOk G) : rTurt i j a b B (aTurtle 11 x y G) (m_Model_turtles n i j a b (nI 10) v2 v3) := by
  have ht8 : gTold G < 8 := hg.1
  obtain ⟨p1, p2, p3, p4, p5, p6⟩ := hg.2.2.2.2.1 (gTold G) ht8
  have cl : (nI (gTold G)).toNatClampNeg = gTold G := cl_n (by omega)
  have w : ∀ (α : Type) (o : Option α), ck (nI (gTold G)) 8 o = o := fun α o => ck_n ⟨ht8, by decide⟩
  have h47 : i 47 = nI (gTold G) := hT.2.2
  generalize hA : aTurtle 11 x y G = A
  unfold m_Model_turtles
  rw [ob1_s, h47, if_neg (by decide), if_neg (by decide), if_neg (by decide), if_neg (by decide), if_neg (by decide), if_neg (by decide), if_neg (by decide), if_neg (by decide), if_neg (by decide), if_neg (by decide), if_pos (by decide)]
  subst hA
  unfold aTurtle
  dsimp only
  rw [if_neg (by decide), if_neg (by decide), if_neg (by decide), if_neg (by decide), if_neg (by decide), if_neg (by decide), if_neg (by decide), if_neg (by decide), if_neg (by decide), if_neg (by decide), if_pos rfl]
  obtain ⟨a', e1, e2, e3⟩ := r_clean (n := n) (i := i) (j := j) (b := b) 4096 0 n a (by decide) (by omega)
  rw [show (0 : Int32) = nI 0 from rfl, e1]
  refine ⟨i, a', 3, rfl, ⟨fun t k h8 h7 => ?_, fun q hq => (e3 q hq).1 (Nat.zero_le _), h47⟩, fun _ _ => rfl, fun q h9 => e2 q (by omega), rfl⟩
  rw [e2 _ (by omega)]
  exact hT.1 t k h8 h7
theorem r_tur12 {n : Nat} {i : Nat → Int32} {j : Nat → Int64} {a : Nat → Nat → Int32} {b : Nat → Nat → Int64} {B : RB4} {G : GS} {x y : Int} {v2 v3 : Int32} (hn : 5000 ≤ n) (hT : rTu i a G) (hg : gOk G) (hx : v2 = Int32.ofInt x ∧ -1000000000 ≤ x ∧ x ≤ 1000000000) (h7 : 0 ≤ x ∧ x ≤ 7) : rTurt i j a b B (aTurtle 12 x y G) (m_Model_turtles n i j a b (nI 11) v2 v3) := by
  have ht8 : gTold G < 8 := hg.1
  obtain ⟨p1, p2, p3, p4, p5, p6⟩ := hg.2.2.2.2.1 (gTold G) ht8
  have cl : (nI (gTold G)).toNatClampNeg = gTold G := cl_n (by omega)
  have w : ∀ (α : Type) (o : Option α), ck (nI (gTold G)) 8 o = o := fun α o => ck_n ⟨ht8, by decide⟩
  have h47 : i 47 = nI (gTold G) := hT.2.2
  obtain ⟨rfl, x1, x2⟩ := hx
  generalize hA : aTurtle 12 x y G = A
  unfold m_Model_turtles
  rw [ob1_s, h47, if_neg (by decide), if_neg (by decide), if_neg (by decide), if_neg (by decide), if_neg (by decide), if_neg (by decide), if_neg (by decide), if_neg (by decide), if_neg (by decide), if_neg (by decide), if_neg (by decide), if_pos (by decide)]
  subst hA
  unfold aTurtle
  dsimp only
  rw [if_neg (by decide), if_neg (by decide), if_neg (by decide), if_neg (by decide), if_neg (by decide), if_neg (by decide), if_neg (by decide), if_neg (by decide), if_neg (by decide), if_neg (by decide), if_neg (by decide), if_pos rfl, if_neg (show ¬ (x < 0 ∨ 7 < x) by omega), ob1_s]
  refine ⟨upd i 47 (Int32.ofInt x), a, 3, rfl, ⟨hT.1, hT.2.1, ?_⟩, fun q hq => upd_ne hq, fun _ _ => rfl, rfl⟩
  rw [upd_at, show x = ((x.toNat : Nat) : Int) by omega]
  exact (rfl)
theorem r_tur13 {n : Nat} {i : Nat → Int32} {j : Nat → Int64} {a : Nat → Nat → Int32} {b : Nat → Nat → Int64} {B : RB4} {G : GS} {x y : Int} {v2 v3 : Int32} (hn : 5000 ≤ n) (hT : rTu i a G) (hg : gOk G) : rTurt i j a b B (aTurtle 13 x y G) (m_Model_turtles n i j a b (nI 12) v2 v3) := by
  have ht8 : gTold G < 8 := hg.1
  obtain ⟨p1, p2, p3, p4, p5, p6⟩ := hg.2.2.2.2.1 (gTold G) ht8
  have cl : (nI (gTold G)).toNatClampNeg = gTold G := cl_n (by omega)
  have w : ∀ (α : Type) (o : Option α), ck (nI (gTold G)) 8 o = o := fun α o => ck_n ⟨ht8, by decide⟩
  have h47 : i 47 = nI (gTold G) := hT.2.2
  have r41 : a 41 (gTold G) = Int32.ofInt (pI G (gTold G) 4) := by rw [← pI_of]; exact hT.1 _ 4 ht8 (by decide)
  generalize hA : aTurtle 13 x y G = A
  unfold m_Model_turtles
  rw [ob1_s, h47, if_neg (by decide), if_neg (by decide), if_neg (by decide), if_neg (by decide), if_neg (by decide), if_neg (by decide), if_neg (by decide), if_neg (by decide), if_neg (by decide), if_neg (by decide), if_neg (by decide), if_neg (by decide), if_pos (by decide)]
  subst hA
  unfold aTurtle
  dsimp only
  rw [if_neg (by decide), if_neg (by decide), if_neg (by decide), if_neg (by decide), if_neg (by decide), if_neg (by decide), if_neg (by decide), if_neg (by decide), if_neg (by decide), if_neg (by decide), if_neg (by decide), if_neg (by decide), if_pos rfl, w, cl, r41, show (30 : Int32) = Int32.ofInt 30 from rfl, ← Int32.ofInt_mul, r_number (by omega) (by omega), ob0_s]
  exact ⟨i, a, _, rfl, hT, fun _ _ => rfl, fun _ _ => rfl, rV_tN.mpr ⟨by omega, by omega, rfl⟩⟩
theorem r_tur14 {n : Nat} {i : Nat → Int32} {j : Nat → Int64} {a : Nat → Nat → Int32} {b : Nat → Nat → Int64} {B : RB4} {G : GS} {x y : Int} {v2 v3 : Int32} (hn : 5000 ≤ n) (hT : rTu i a G) (hg : gOk G) : rTurt i j a b B (aTurtle 14 x y G) (m_Model_turtles n i j a b (nI 13) v2 v3) := by
  have ht8 : gTold G < 8 := hg.1
  obtain ⟨p1, p2, p3, p4, p5, p6⟩ := hg.2.2.2.2.1 (gTold G) ht8
  have cl : (nI (gTold G)).toNatClampNeg = gTold G := cl_n (by omega)
  have w : ∀ (α : Type) (o : Option α), ck (nI (gTold G)) 8 o = o := fun α o => ck_n ⟨ht8, by decide⟩
  have h47 : i 47 = nI (gTold G) := hT.2.2
  have r0 : a 37 (gTold G) = Int32.ofInt (pI G (gTold G) 0) := by rw [← pI_of]; exact hT.1 _ 0 ht8 (by decide)
  have r1 : a 38 (gTold G) = Int32.ofInt (pI G (gTold G) 1) := by rw [← pI_of]; exact hT.1 _ 1 ht8 (by decide)
  have q0 := p1 0 (by decide)
  have q1 := p1 1 (by decide)
  have hz := flH_b (p := pI G (gTold G) 0) (q := pI G (gTold G) 1) (M := 1000001) (by omega) (by omega) (by decide)
  generalize hA : aTurtle 14 x y G = A
  unfold m_Model_turtles
  rw [ob1_s, h47, if_neg (by decide), if_neg (by decide), if_neg (by decide), if_neg (by decide), if_neg (by decide), if_neg (by decide), if_neg (by decide), if_neg (by decide), if_neg (by decide), if_neg (by decide), if_neg (by decide), if_neg (by decide), if_neg (by decide), if_pos (by decide)]
  subst hA
  unfold aTurtle
  dsimp only
  rw [if_neg (by decide), if_neg (by decide), if_neg (by decide), if_neg (by decide), if_neg (by decide), if_neg (by decide), if_neg (by decide), if_neg (by decide), if_neg (by decide), if_neg (by decide), if_neg (by decide), if_neg (by decide), if_neg (by decide), if_pos rfl, w, w, cl, r0, r1, i32_64 (x := pI G (gTold G) 0) (by omega) (by omega), i32_64 (x := pI G (gTold G) 1) (by omega) (by omega), show (2 : Int64) = Int64.ofInt 2 from rfl, r_floor (by omega) (by omega) (by omega) (Or.inl rfl), ob0_s]
  show rTurt i j a b B _ (ob0 (m_Model_number n (Int32.ofInt (flH (pI G (gTold G) 0) (pI G (gTold G) 1)))) _)
  rw [r_number (by omega) (by omega), ob0_s]
  exact ⟨i, a, _, rfl, hT, fun _ _ => rfl, fun _ _ => rfl, rV_tN.mpr ⟨by omega, by omega, rfl⟩⟩
theorem r_tur15 {n : Nat} {i : Nat → Int32} {j : Nat → Int64} {a : Nat → Nat → Int32} {b : Nat → Nat → Int64} {B : RB4} {G : GS} {x y : Int} {v2 v3 : Int32} (hn : 5000 ≤ n) (hT : rTu i a G) (hg : gOk G) : rTurt i j a b B (aTurtle 15 x y G) (m_Model_turtles n i j a b (nI 14) v2 v3) := by
  have ht8 : gTold G < 8 := hg.1
  obtain ⟨p1, p2, p3, p4, p5, p6⟩ := hg.2.2.2.2.1 (gTold G) ht8
  have cl : (nI (gTold G)).toNatClampNeg = gTold G := cl_n (by omega)
  have w : ∀ (α : Type) (o : Option α), ck (nI (gTold G)) 8 o = o := fun α o => ck_n ⟨ht8, by decide⟩
  have h47 : i 47 = nI (gTold G) := hT.2.2
  have r0 : a 39 (gTold G) = Int32.ofInt (pI G (gTold G) 2) := by rw [← pI_of]; exact hT.1 _ 2 ht8 (by decide)
  have r1 : a 40 (gTold G) = Int32.ofInt (pI G (gTold G) 3) := by rw [← pI_of]; exact hT.1 _ 3 ht8 (by decide)
  have q0 := p1 2 (by decide)
  have q1 := p1 3 (by decide)
  have hz := flH_b (p := pI G (gTold G) 2) (q := pI G (gTold G) 3) (M := 1000001) (by omega) (by omega) (by decide)
  generalize hA : aTurtle 15 x y G = A
  unfold m_Model_turtles
  rw [ob1_s, h47, if_neg (by decide), if_neg (by decide), if_neg (by decide), if_neg (by decide), if_neg (by decide), if_neg (by decide), if_neg (by decide), if_neg (by decide), if_neg (by decide), if_neg (by decide), if_neg (by decide), if_neg (by decide), if_neg (by decide), if_neg (by decide), if_pos (by decide)]
  subst hA
  unfold aTurtle
  dsimp only
  rw [if_neg (by decide), if_neg (by decide), if_neg (by decide), if_neg (by decide), if_neg (by decide), if_neg (by decide), if_neg (by decide), if_neg (by decide), if_neg (by decide), if_neg (by decide), if_neg (by decide), if_neg (by decide), if_neg (by decide), if_neg (by decide), if_pos rfl, w, w, cl, r0, r1, i32_64 (x := pI G (gTold G) 2) (by omega) (by omega), i32_64 (x := pI G (gTold G) 3) (by omega) (by omega), show (2 : Int64) = Int64.ofInt 2 from rfl, r_floor (by omega) (by omega) (by omega) (Or.inl rfl), ob0_s]
  show rTurt i j a b B _ (ob0 (m_Model_number n (Int32.ofInt (flH (pI G (gTold G) 2) (pI G (gTold G) 3)))) _)
  rw [r_number (by omega) (by omega), ob0_s]
  exact ⟨i, a, _, rfl, hT, fun _ _ => rfl, fun _ _ => rfl, rV_tN.mpr ⟨by omega, by omega, rfl⟩⟩
theorem r_tur16 {n : Nat} {i : Nat → Int32} {j : Nat → Int64} {a : Nat → Nat → Int32} {b : Nat → Nat → Int64} {B : RB4} {G : GS} {x y : Int} {v2 v3 : Int32} (hn : 5000 ≤ n) (hT : rTu i a G) (hg : gOk G) : rTurt i j a b B (aTurtle 16 x y G) (m_Model_turtles n i j a b (nI 15) v2 v3) := by
  have ht8 : gTold G < 8 := hg.1
  obtain ⟨p1, p2, p3, p4, p5, p6⟩ := hg.2.2.2.2.1 (gTold G) ht8
  have cl : (nI (gTold G)).toNatClampNeg = gTold G := cl_n (by omega)
  have w : ∀ (α : Type) (o : Option α), ck (nI (gTold G)) 8 o = o := fun α o => ck_n ⟨ht8, by decide⟩
  have h47 : i 47 = nI (gTold G) := hT.2.2
  have r42 : a 42 (gTold G) = Int32.ofInt (pI G (gTold G) 5) := by rw [← pI_of]; exact hT.1 _ 5 ht8 (by decide)
  generalize hA : aTurtle 16 x y G = A
  unfold m_Model_turtles
  rw [ob1_s, h47, if_neg (by decide), if_neg (by decide), if_neg (by decide), if_neg (by decide), if_neg (by decide), if_neg (by decide), if_neg (by decide), if_neg (by decide), if_neg (by decide), if_neg (by decide), if_neg (by decide), if_neg (by decide), if_neg (by decide), if_neg (by decide), if_neg (by decide), if_pos (by decide)]
  subst hA
  unfold aTurtle
  dsimp only
  rw [if_neg (by decide), if_neg (by decide), if_neg (by decide), if_neg (by decide), if_neg (by decide), if_neg (by decide), if_neg (by decide), if_neg (by decide), if_neg (by decide), if_neg (by decide), if_neg (by decide), if_neg (by decide), if_neg (by decide), if_neg (by decide), if_neg (by decide), if_pos rfl, w, cl, r42, r_number (by omega) (by omega), ob0_s]
  exact ⟨i, a, _, rfl, hT, fun _ _ => rfl, fun _ _ => rfl, rV_tN.mpr ⟨by omega, by omega, rfl⟩⟩
theorem r_tur17 {n : Nat} {i : Nat → Int32} {j : Nat → Int64} {a : Nat → Nat → Int32} {b : Nat → Nat → Int64} {B : RB4} {G : GS} {x y : Int} {v2 v3 : Int32} (hn : 5000 ≤ n) (hT : rTu i a G) (hg : gOk G) : rTurt i j a b B (aTurtle 17 x y G) (m_Model_turtles n i j a b (nI 16) v2 v3) := by
  have ht8 : gTold G < 8 := hg.1
  obtain ⟨p1, p2, p3, p4, p5, p6⟩ := hg.2.2.2.2.1 (gTold G) ht8
  have cl : (nI (gTold G)).toNatClampNeg = gTold G := cl_n (by omega)
  have w : ∀ (α : Type) (o : Option α), ck (nI (gTold G)) 8 o = o := fun α o => ck_n ⟨ht8, by decide⟩
  have h47 : i 47 = nI (gTold G) := hT.2.2
  generalize hA : aTurtle 17 x y G = A
  unfold m_Model_turtles
  rw [ob1_s, h47, if_neg (by decide), if_neg (by decide), if_neg (by decide), if_neg (by decide), if_neg (by decide), if_neg (by decide), if_neg (by decide), if_neg (by decide), if_neg (by decide), if_neg (by decide), if_neg (by decide), if_neg (by decide), if_neg (by decide), if_neg (by decide), if_neg (by decide), if_neg (by decide), if_pos (by decide)]
  subst hA
  unfold aTurtle
  dsimp only
  rw [if_neg (by decide), if_neg (by decide), if_neg (by decide), if_neg (by decide), if_neg (by decide), if_neg (by decide), if_neg (by decide), if_neg (by decide), if_neg (by decide), if_neg (by decide), if_neg (by decide), if_neg (by decide), if_neg (by decide), if_neg (by decide), if_neg (by decide), if_neg (by decide), if_pos rfl, nI_ofInt, r_number (by omega) (by omega), ob0_s]
  exact ⟨i, a, _, rfl, hT, fun _ _ => rfl, fun _ _ => rfl, rV_tN.mpr ⟨by omega, by omega, rfl⟩⟩
theorem r_tur18 {n : Nat} {i : Nat → Int32} {j : Nat → Int64} {a : Nat → Nat → Int32} {b : Nat → Nat → Int64} {B : RB4} {G : GS} {x y : Int} {v2 v3 : Int32} (hn : 5000 ≤ n) (hT : rTu i a G) (hg : gOk G) : rTurt i j a b B (aTurtle 18 x y G) (m_Model_turtles n i j a b (nI 17) v2 v3) := by
  have ht8 : gTold G < 8 := hg.1
  obtain ⟨p1, p2, p3, p4, p5, p6⟩ := hg.2.2.2.2.1 (gTold G) ht8
  have cl : (nI (gTold G)).toNatClampNeg = gTold G := cl_n (by omega)
  have w : ∀ (α : Type) (o : Option α), ck (nI (gTold G)) 8 o = o := fun α o => ck_n ⟨ht8, by decide⟩
  have h47 : i 47 = nI (gTold G) := hT.2.2
  have rw_ : ∀ k, k < 4 → a (37 + k) (gTold G) = Int32.ofInt (pI G (gTold G) k) := fun k hk => by rw [← pI_of]; exact hT.1 _ k ht8 (by omega)
  have r0 : a 37 (gTold G) = _ := rw_ 0 (by decide)
  have r1 : a 38 (gTold G) = _ := rw_ 1 (by decide)
  have r2 : a 39 (gTold G) = _ := rw_ 2 (by decide)
  have r3 : a 40 (gTold G) = _ := rw_ 3 (by decide)
  have q0 := p1 0 (by decide)
  have q1 := p1 1 (by decide)
  have q2 := p1 2 (by decide)
  have q3 := p1 3 (by decide)
  have hz := flH_b (p := pI G (gTold G) 0 + 1) (q := pI G (gTold G) 1) (M := 1000001) (by omega) (by omega) (by decide)
  have hz2 := flH_b (p := pI G (gTold G) 2 + 1) (q := pI G (gTold G) 3) (M := 1000001) (by omega) (by omega) (by decide)
  have fl : ∀ p q : Int, -1000000 ≤ p ∧ p ≤ 1000000 → -1000000 ≤ q ∧ q ≤ 1000000 → m_Model_floor n ((Int32.ofInt p + 1).toInt64) (Int32.ofInt q).toInt64 (2 : Int64) = some (Int32.ofInt (flH (p + 1) q)) := by
    intro p q hp hq
    rw [show Int32.ofInt p + (1 : Int32) = Int32.ofInt (p + 1) by rw [Int32.ofInt_add]; rfl, i32_64 (x := p + 1) (by omega) (by omega), i32_64 (x := q) (by omega) (by omega), show (2 : Int64) = Int64.ofInt 2 from rfl, r_floor (by omega) (by omega) (by omega) (Or.inl rfl)]
    rfl
  have fin : ∀ z : Int32, z = Int32.ofInt (aBelow G) → 0 ≤ aBelow G ∧ aBelow G ≤ 7 → rTurt i j a b B (.ok (G, some (tN (aBelow G)))) (ob0 (m_Model_number n z) (fun r => some (i, j, a, b, r))) := by
    intro z ez hb
    rw [ez, r_number (by omega) (by omega), ob0_s]
    exact ⟨i, a, _, rfl, hT, fun _ _ => rfl, fun _ _ => rfl, rV_tN.mpr ⟨by omega, by omega, rfl⟩⟩
  generalize hA : aTurtle 18 x y G = A
  unfold m_Model_turtles
  rw [ob1_s, h47, if_neg (by decide), if_neg (by decide), if_neg (by decide), if_neg (by decide), if_neg (by decide), if_neg (by decide), if_neg (by decide), if_neg (by decide), if_neg (by decide), if_neg (by decide), if_neg (by decide), if_neg (by decide), if_neg (by decide), if_neg (by decide), if_neg (by decide), if_neg (by decide), if_neg (by decide), if_pos (by decide)]
  subst hA
  unfold aTurtle
  dsimp only
  rw [if_neg (by decide), if_neg (by decide), if_neg (by decide), if_neg (by decide), if_neg (by decide), if_neg (by decide), if_neg (by decide), if_neg (by decide), if_neg (by decide), if_neg (by decide), if_neg (by decide), if_neg (by decide), if_neg (by decide), if_neg (by decide), if_neg (by decide), if_neg (by decide), if_neg (by decide), if_pos rfl, w, w, cl, r0, r1, fl _ _ q0 q1, ob0_s, w, w, r2, r3, fl _ _ q2 q3, ob0_s]
  unfold m_Model_dotAt
  generalize e1 : flH (pI G (gTold G) 0 + 1) (pI G (gTold G) 1) = u at *
  generalize e2 : flH (pI G (gTold G) 2 + 1) (pI G (gTold G) 3) = v at *
  have m1 : m_Math_max n (0 : Int32) (-1) = some 0 := by unfold m_Math_max; rw [if_neg (by decide)]
  have out : (¬ (-32 ≤ u ∧ u < 32 ∧ -32 ≤ v ∧ v < 32)) → aBelow G = 0 := fun h => by
    unfold aBelow
    rw [e1, e2]
    exact if_neg h
  rw [show (-32 : Int32) = Int32.ofInt (-32) by decide, show (31 : Int32) = Int32.ofInt 31 from rfl]
  rcases Classical.em (u < -32) with c | c
  · rw [if_pos ((I_lt (by omega) (by omega)).mpr c), ob0_s, m1, ob0_s]
    exact fin 0 (by rw [out (by omega)]; rfl) (by rw [out (by omega)]; decide)
  rw [if_neg (fun e => c ((I_lt (by omega) (by omega)).mp e))]
  rcases Classical.em (31 < u) with c1 | c1
  · rw [if_pos ((I_lt (by omega) (by omega)).mpr c1), ob0_s, m1, ob0_s]
    exact fin 0 (by rw [out (by omega)]; rfl) (by rw [out (by omega)]; decide)
  rw [if_neg (fun e => c1 ((I_lt (by omega) (by omega)).mp e))]
  rcases Classical.em (v < -32) with c2 | c2
  · rw [if_pos ((I_lt (by omega) (by omega)).mpr c2), ob0_s, m1, ob0_s]
    exact fin 0 (by rw [out (by omega)]; rfl) (by rw [out (by omega)]; decide)
  rw [if_neg (fun e => c2 ((I_lt (by omega) (by omega)).mp e))]
  rcases Classical.em (v ≤ 31) with c3 | c3
  · rw [if_pos ((I_le (by omega) (by omega)).mpr c3)]
    have ei : 64 * (Int32.ofInt v + 32) + Int32.ofInt u + 32 = nI ((v + 32) * 64 + u + 32).toNat := by
      rw [nI_ofInt, Int.toNat_of_nonneg (by omega), Int.mul_comm (v + 32) 64, Int32.ofInt_add, Int32.ofInt_add, Int32.ofInt_mul, Int32.ofInt_add]
      rfl
    have hd := hg.2.2.2.2.2 ((v + 32) * 64 + u + 32).toNat (by omega)
    have eb : aBelow G = (gDots G ((v + 32) * 64 + u + 32).toNat).toInt := by
      unfold aBelow
      rw [e1, e2]
      exact if_pos (by omega)
    rw [ei, ck_n (by omega), cl_n (by omega), hT.2.1 _ (by omega), ob0_s, show gDots G ((v + 32) * 64 + u + 32).toNat = Int32.ofInt (gDots G ((v + 32) * 64 + u + 32).toNat).toInt from (Int32.ofInt_toInt _).symm, show (0 : Int32) = Int32.ofInt 0 from rfl, r_max (by omega) (by omega), ob0_s, Int.max_eq_right (by omega)]
    exact fin _ (by rw [eb]) (by omega)
  · rw [if_neg (fun e => c3 ((I_le (by omega) (by omega)).mp e)), ob0_s, m1, ob0_s]
    exact fin 0 (by rw [out (by omega)]; rfl) (by rw [out (by omega)]; decide)
theorem r_tur19 {n : Nat} {i : Nat → Int32} {j : Nat → Int64} {a : Nat → Nat → Int32} {b : Nat → Nat → Int64} {B : RB4} {G : GS} {x y : Int} {v2 v3 : Int32} (hn : 5000 ≤ n) (hT : rTu i a G) (hg : gOk G) (hx : v2 = Int32.ofInt x ∧ -1000000000 ≤ x ∧ x ≤ 1000000000) (hy : v3 = Int32.ofInt y ∧ -1000000000 ≤ y ∧ y ≤ 1000000000) (h7 : 0 ≤ x ∧ x ≤ 7) (h8 : 0 ≤ y ∧ y ≤ 7) (hr : rTr j a b B) : rTurt i j a b B (aTurtle 19 x y G) (m_Model_turtles n i j a b (nI 18) v2 v3) := by
  have ht8 : gTold G < 8 := hg.1
  obtain ⟨p1, p2, p3, p4, p5, p6⟩ := hg.2.2.2.2.1 (gTold G) ht8
  have cl : (nI (gTold G)).toNatClampNeg = gTold G := cl_n (by omega)
  have w : ∀ (α : Type) (o : Option α), ck (nI (gTold G)) 8 o = o := fun α o => ck_n ⟨ht8, by decide⟩
  have h47 : i 47 = nI (gTold G) := hT.2.2
  obtain ⟨rfl, x1, x2⟩ := hx
  obtain ⟨rfl, y1, y2⟩ := hy
  obtain ⟨s, rfl⟩ : ∃ s : Nat, x = (s : Int) := ⟨x.toNat, by omega⟩
  obtain ⟨t, rfl⟩ : ∃ s : Nat, y = (s : Int) := ⟨y.toNat, by omega⟩
  have ws : ∀ (α : Type) (o : Option α), ck (nI s) 8 o = o := fun α o => ck_n ⟨by omega, by decide⟩
  have wt : ∀ (α : Type) (o : Option α), ck (nI t) 8 o = o := fun α o => ck_n ⟨by omega, by decide⟩
  have rr : ∀ q k, q < 8 → k < 4 → a (37 + k) q = gParts G (7 * q + k) := fun q k hq hk => hT.1 _ k hq (by omega)
  have eqv : ∀ k, (gParts G (7 * s + k) = gParts G (7 * t + k)) ↔ pI G s k = pI G t k := fun k => Int32.toInt_inj.symm
  have tr : ∀ q : Bool, rTurt i j a b B (.ok (G, some (aTruth q))) (ob0 (m_Model_truth n i j a b (b1 q)) (fun r => some (i, j, a, b, r))) := fun q => by
    obtain ⟨v, f1, f2⟩ := r_truth (n := n) (i := i) hr q
    rw [f1, ob0_s]
    exact ⟨i, a, _, rfl, hT, fun _ _ => rfl, fun _ _ => rfl, f2⟩
  have trf := tr false
  have trt := tr true
  generalize hA : aTurtle 19 (s : Int) (t : Int) G = A
  unfold m_Model_turtles
  rw [ob1_s, h47, if_neg (by decide), if_neg (by decide), if_neg (by decide), if_neg (by decide), if_neg (by decide), if_neg (by decide), if_neg (by decide), if_neg (by decide), if_neg (by decide), if_neg (by decide), if_neg (by decide), if_neg (by decide), if_neg (by decide), if_neg (by decide), if_neg (by decide), if_neg (by decide), if_neg (by decide), if_neg (by decide)]
  subst hA
  unfold aTurtle
  dsimp only
  rw [if_neg (by decide), if_neg (by decide), if_neg (by decide), if_neg (by decide), if_neg (by decide), if_neg (by decide), if_neg (by decide), if_neg (by decide), if_neg (by decide), if_neg (by decide), if_neg (by decide), if_neg (by decide), if_neg (by decide), if_neg (by decide), if_neg (by decide), if_neg (by decide), if_neg (by decide), if_neg (by decide), if_neg (show ¬ ((s : Int) < 0 ∨ 7 < (s : Int) ∨ (t : Int) < 0 ∨ 7 < (t : Int)) by omega)]
  rw [show Int32.ofInt (s : Int) = nI s from rfl, show Int32.ofInt (t : Int) = nI t from rfl]
  simp only [ws, wt]
  rw [cl_n (by omega), cl_n (by omega), show a 37 s = _ from rr s 0 (by omega) (by decide), show a 37 t = _ from rr t 0 (by omega) (by decide), show a 38 s = _ from rr s 1 (by omega) (by decide), show a 38 t = _ from rr t 1 (by omega) (by decide), show a 39 s = _ from rr s 2 (by omega) (by decide), show a 39 t = _ from rr t 2 (by omega) (by decide), show a 40 s = _ from rr s 3 (by omega) (by decide), show a 40 t = _ from rr t 3 (by omega) (by decide)]
  rw [show ((s : Int)).toNat = s from rfl, show ((t : Int)).toNat = t from rfl]
  rcases Classical.em (pI G s 0 = pI G t 0) with c0 | c0
  · rw [if_pos ((eqv 0).mpr c0)]
    rcases Classical.em (pI G s 1 = pI G t 1) with c1 | c1
    · rw [if_pos ((eqv 1).mpr c1)]
      rcases Classical.em (pI G s 2 = pI G t 2) with c2 | c2
      · rw [if_pos ((eqv 2).mpr c2)]
        rcases Classical.em (pI G s 3 = pI G t 3) with c3 | c3
        · rw [if_pos ((eqv 3).mpr c3), decide_eq_true ⟨c0, c1, c2, c3⟩]
          exact trt
        · rw [if_neg (fun e => c3 ((eqv 3).mp e)), decide_eq_false (fun h => c3 h.2.2.2)]
          exact trf
      · rw [if_neg (fun e => c2 ((eqv 2).mp e)), decide_eq_false (fun h => c2 h.2.2.1)]
        exact trf
    · rw [if_neg (fun e => c1 ((eqv 1).mp e)), decide_eq_false (fun h => c1 h.2.1)]
      exact trf
  · rw [if_neg (fun e => c0 ((eqv 0).mp e)), decide_eq_false (fun h => c0 h.1)]
    exact trf
