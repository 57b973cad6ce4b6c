/-! numbers of the reference -/
/-- what a deed answers: an error, or a value -/
def rAns (i : Nat → Int32) (j : Nat → Int64) (a : Nat → Nat → Int32) (b : Nat → Nat → Int64) (B : RB4) (r : Except Nat Tr) (o : Option ((Nat → Int32) × (Nat → Int64) × (Nat → Nat → Int32) × (Nat → Nat → Int64) × Int64)) : Prop :=
  (∃ e, r = .error e ∧ o = some (rFail i e, j, a, b, 3)) ∨ (∃ t v, r = .ok t ∧ o = some (i, j, a, b, v) ∧ rV a b B t none v)
def rTr (j : Nat → Int64) (a : Nat → Nat → Int32) (b : Nat → Nat → Int64) (B : RB4) : Prop := rV a b B (tW wTrue) none (j 124) ∧ rV a b B (tW wFalse) none (j 125)
theorem i32_tdiv {x y : Int} (hx : -1000000000 ≤ x ∧ x ≤ 1000000000) (hy : -1000000000 ≤ y ∧ y ≤ 1000000000) : Int32.ofInt x / Int32.ofInt y = Int32.ofInt (x.tdiv y) ∧ -1000000000 ≤ x.tdiv y ∧ x.tdiv y ≤ 1000000000 := by
  have hb : (x.tdiv y).natAbs ≤ x.natAbs := by
    rw [Int.natAbs_tdiv]
    exact Nat.div_le_self _ _
  have b1 : -1000000000 ≤ x.tdiv y := by omega
  have b2 : x.tdiv y ≤ 1000000000 := by omega
  refine ⟨?_, b1, b2⟩
  apply Int32.toInt_inj.mp
  rw [Int32.toInt_div, i32_int (by omega) (by omega), i32_int (by omega) (by omega), i32_int (by omega) (by omega)]
  exact Int.bmod_eq_of_le (by show -2147483648 ≤ _; omega) (by show _ < 2147483648; omega)
theorem i32_trem {x y : Int} (hx : -1000000000 ≤ x ∧ x ≤ 1000000000) (hy : -1000000000 ≤ y ∧ y ≤ 1000000000) : Int32.ofInt x - Int32.ofInt x / Int32.ofInt y * Int32.ofInt y = Int32.ofInt (x.tmod y) := by
  rw [(i32_tdiv hx hy).1, ← Int32.ofInt_mul, ← Int32.ofInt_sub, Int.tmod_def, Int.mul_comm]
theorem i32_zero {y : Int} (hy : -1000000000 ≤ y ∧ y ≤ 1000000000) : Int32.ofInt y = 0 ↔ y = 0 := by
  constructor
  · intro e
    have := congrArg Int32.toInt e
    rw [i32_int (by omega) (by omega)] at this
    exact this
  · intro e; rw [e]; rfl
theorem i32_le {x y : Int} (hx : -1000000000 ≤ x ∧ x ≤ 1000000000) (hy : -1000000000 ≤ y ∧ y ≤ 1000000000) : Int32.ofInt x ≤ Int32.ofInt y ↔ x ≤ y := by
  rw [Int32.le_iff_toInt_le, i32_int (by omega) (by omega), i32_int (by omega) (by omega)]
theorem r_inB {n : Nat} {i : Nat → Int32} {j : Nat → Int64} {a : Nat → Nat → Int32} {b : Nat → Nat → Int64} {B : RB4} {z : Int} (hz : -9000000000000000000 ≤ z ∧ z ≤ 9000000000000000000) : rAns i j a b B (inB z) (m_Model_numbers_b229 n i j a b (Int64.ofInt z)) := by
  have g1 : (0 < lg_cmp (Int64.ofInt z) (1000000000 : Int64)) ↔ (1000000000 : Int) < z := by
    rw [show (1000000000 : Int64) = Int64.ofInt 1000000000 by decide]
    exact lg_gt hz ⟨by decide, by decide⟩
  have g2 : (0 ≤ lg_cmp (Int64.ofInt z) (-1000000000 : Int64)) ↔ (-1000000000 : Int) ≤ z := by
    rw [show (-1000000000 : Int64) = Int64.ofInt (-1000000000) by decide]
    exact lg_ge hz ⟨by decide, by decide⟩
  have f9 : m_Model_numbers_b247 n i j a b = some (rFail i 9, j, a, b, 3) := rfl
  unfold m_Model_numbers_b229 inB
  rcases Classical.em ((1000000000 : Int) < z) with c | c
  · rw [if_pos (g1.mpr c), if_pos (Or.inr c)]
    exact Or.inl ⟨9, rfl, f9⟩
  · rw [if_neg (fun e => c (g1.mp e))]
    rcases Classical.em ((-1000000000 : Int) ≤ z) with d | d
    · rw [if_pos (g2.mpr d), if_neg (by omega), Int64.toInt32_ofInt, r_number d (by omega), ob0_s]
      exact Or.inr ⟨tN z, vN z, rfl, rfl, rV_tN.mpr ⟨d, by omega, rfl⟩⟩
    · rw [if_neg (fun e => d (g2.mp e)), if_pos (Or.inl (by omega))]
      exact Or.inl ⟨9, rfl, f9⟩
theorem r_truth {n : Nat} {i : Nat → Int32} {j : Nat → Int64} {a : Nat → Nat → Int32} {b : Nat → Nat → Int64} {B : RB4} (hT : rTr j a b B) (t : Bool) : ∃ v, m_Model_truth n i j a b (b1 t) = some v ∧ rV a b B (aTruth t) none v := by
  unfold m_Model_truth
  cases t with
  | true => exact ⟨_, by rw [b1_t, if_neg (show ¬ nI 1 = (0 : Int32) by decide)], hT.1⟩
  | false => exact ⟨_, by rw [b1_f, if_pos (show nI 0 = (0 : Int32) from rfl)], hT.2⟩
theorem r_truth2 {n : Nat} {i : Nat → Int32} {j : Nat → Int64} {a : Nat → Nat → Int32} {b : Nat → Nat → Int64} {B : RB4} (hT : rTr j a b B) (t : Bool) : rAns i j a b B (.ok (aTruth t)) (ob0 (m_Model_truth n i j a b (b1 t)) (fun r => some (i, j, a, b, r))) := by
  obtain ⟨v, e1, e2⟩ := r_truth (n := n) (i := i) hT t
  rw [e1, ob0_s]
  exact Or.inr ⟨_, _, rfl, rfl, e2⟩
/-- of two numbers, but for random -/
def nRes (code : Nat) (x y : Int) : Except Nat Tr :=
  if code = 20 then inB (x + y)
  else if code = 21 then inB (x - y)
  else if code = 22 then inB (x * y)
  else if code = 23 then (if y = 0 then .error 10 else inB (x.tdiv y))
  else if code = 24 then (if y = 0 then .error 10 else inB (x.tmod y))
  else if code = 25 then inB (-x)
  else if code = 26 then .ok (aTruth (decide (x < y)))
  else .ok (aTruth (decide (y < x)))
theorem r_numbers {n : Nat} {i : Nat → Int32} {j : Nat → Int64} {a : Nat → Nat → Int32} {b : Nat → Nat → Int64} {B : RB4} {code : Nat} {x y : Int} (hT : rTr j a b B) (hc : 20 ≤ code ∧ code ≤ 27) (hx : -1000000000 ≤ x ∧ x ≤ 1000000000) (hy : -1000000000 ≤ y ∧ y ≤ 1000000000) : rAns i j a b B (nRes code x y) (m_Model_numbers n i j a b (nI (code - 1)) (Int32.ofInt x) (Int32.ofInt y)) := by
  have ex := i32_64 (x := x) (by omega) (by omega)
  have ey := i32_64 (x := y) (by omega) (by omega)
  have hm := mul_bd hx hy
  have hd := i32_tdiv hx hy
  have f10 : ∀ v1 v2 : Int32, y = 0 → m_Model_numbers_b12 n i j a b v1 v2 (Int32.ofInt y) = some (rFail i 10, j, a, b, 3) := fun v1 v2 e => by
    unfold m_Model_numbers_b12
    rw [if_pos ((i32_zero hy).mpr e)]
    rfl
  have f11 : ∀ v1 v2 : Int32, ¬ y = 0 → m_Model_numbers_b12 n i j a b v1 v2 (Int32.ofInt y) = m_Model_numbers_b23 n i j a b v1 v2 (Int32.ofInt y) := fun v1 v2 e => by
    unfold m_Model_numbers_b12
    rw [if_neg (fun h => e ((i32_zero hy).mp h))]
  obtain ⟨h1, h2⟩ := hc
  have hcc : code = 20 ∨ code = 21 ∨ code = 22 ∨ code = 23 ∨ code = 24 ∨ code = 25 ∨ code = 26 ∨ code = 27 := by omega
  unfold m_Model_numbers
  rcases hcc with rfl | rfl | rfl | rfl | rfl | rfl | rfl | rfl
  · rw [if_neg (by decide), if_neg (by decide)]
    unfold m_Model_numbers_b23
    rw [if_pos (by decide), ob1_s, ex, ey, ← Int64.ofInt_add]
    exact r_inB (by omega)
  · rw [if_neg (by decide), if_neg (by decide)]
    unfold m_Model_numbers_b23
    rw [if_neg (by decide), if_pos (by decide), ob1_s, ex, ey, ← Int64.ofInt_sub]
    exact r_inB (by omega)
  · rw [if_neg (by decide), if_neg (by decide)]
    unfold m_Model_numbers_b23
    rw [if_neg (by decide), if_neg (by decide), if_pos (by decide), ob1_s, ex, ey, ← Int64.ofInt_mul]
    exact r_inB (by omega)
  · rw [if_pos (by decide)]
    show rAns i j a b B (if y = 0 then .error 10 else inB (x.tdiv y)) _
    rcases Classical.em (y = 0) with c | c
    · rw [if_pos c, f10 _ _ c]
      exact Or.inl ⟨10, rfl, rfl⟩
    · rw [if_neg c, f11 _ _ c]
      unfold m_Model_numbers_b23 cz
      rw [if_neg (by decide), if_neg (by decide), if_neg (by decide), if_pos (by decide), if_neg (fun h => c ((i32_zero hy).mp h)), ob1_s, hd.1, i32_64 (by omega) (by omega)]
      exact r_inB (by omega)
  · rw [if_neg (by decide), if_pos (by decide)]
    show rAns i j a b B (if y = 0 then .error 10 else inB (x.tmod y)) _
    rcases Classical.em (y = 0) with c | c
    · rw [if_pos c, f10 _ _ c]
      exact Or.inl ⟨10, rfl, rfl⟩
    · have ht := tmod_bd hx c hy
      rw [if_neg c, f11 _ _ c]
      unfold m_Model_numbers_b23 cz
      rw [if_neg (by decide), if_neg (by decide), if_neg (by decide), if_neg (by decide), if_pos (by decide), if_neg (fun h => c ((i32_zero hy).mp h)), ob1_s, i32_trem hx hy, i32_64 (by omega) (by omega)]
      exact r_inB (by omega)
  · rw [if_neg (by decide), if_neg (by decide)]
    unfold m_Model_numbers_b23
    rw [if_neg (by decide), if_neg (by decide), if_neg (by decide), if_neg (by decide), if_neg (by decide), if_pos (by decide), ob1_s, ← Int32.ofInt_neg, i32_64 (by omega) (by omega)]
    exact r_inB (by omega)
  · rw [if_neg (by decide), if_neg (by decide)]
    unfold m_Model_numbers_b23
    rw [if_neg (by decide), if_neg (by decide), if_neg (by decide), if_neg (by decide), if_neg (by decide), if_neg (by decide), if_pos (by decide)]
    show rAns i j a b B (.ok (aTruth (decide (x < y)))) _
    rcases Classical.em (x < y) with c | c
    · rw [if_neg (fun h => absurd ((i32_le hy hx).mp h) (by omega)), decide_eq_true c]
      exact r_truth2 hT true
    · rw [if_pos ((i32_le hy hx).mpr (by omega)), decide_eq_false c]
      exact r_truth2 hT false
  · rw [if_neg (by decide), if_neg (by decide)]
    unfold m_Model_numbers_b23
    rw [if_neg (by decide), if_neg (by decide), if_neg (by decide), if_neg (by decide), if_neg (by decide), if_neg (by decide), if_neg (by decide), if_pos (by decide)]
    show rAns i j a b B (.ok (aTruth (decide (y < x)))) _
    rcases Classical.em (y < x) with c | c
    · rw [if_neg (fun h => absurd ((i32_le hx hy).mp h) (by omega)), decide_eq_true c]
      exact r_truth2 hT true
    · rw [if_pos ((i32_le hx hy).mpr (by omega)), decide_eq_false c]
      exact r_truth2 hT false
theorem nRes_a {code : Nat} (hc : 20 ≤ code ∧ code ≤ 27) (x y : Int) (v u : Tr) (g : GS) : aNumber code x y v u g = match nRes code x y with
    | .ok t => .ok (g, some t)
    | .error e => .error e := by
  obtain ⟨h1, h2⟩ := hc
  have hcc : code = 20 ∨ code = 21 ∨ code = 22 ∨ code = 23 ∨ code = 24 ∨ code = 25 ∨ code = 26 ∨ code = 27 := by omega
  rcases hcc with rfl | rfl | rfl | rfl | rfl | rfl | rfl | rfl
  · rfl
  · rfl
  · rfl
  · unfold aNumber nRes
    rcases Classical.em (y = 0) with c | c
    · simp [c]
    · simp [c]
      cases inB (x.tdiv y) <;> rfl
  · unfold aNumber nRes
    rcases Classical.em (y = 0) with c | c
    · simp [c]
    · simp [c]
      cases inB (x.tmod y) <;> rfl
  · rfl
  · rfl
  · rfl
/-- random -/
theorem r_random {n : Nat} {i : Nat → Int32} {j : Nat → Int64} {a : Nat → Nat → Int32} {b : Nat → Nat → Int64} {B : RB4} {x : Int} {y : Int32} (hx : -1000000000 ≤ x ∧ x ≤ 1000000000) : (x < 1 ∧ m_Model_numbers n i j a b (nI 27) (Int32.ofInt x) y = some (rFail i 3, j, a, b, 3)) ∨ (1 ≤ x ∧ ∃ i', (m_Model_numbers n i j a b (nI 27) (Int32.ofInt x) y = some (i', j, a, b, vN ((aRnd (i 46) &&& 2147483647).toInt % x))) ∧ i' 46 = aRnd (i 46) ∧ (∀ q, q ≠ 46 → i' q = i q) ∧ rV a b B (tN ((aRnd (i 46) &&& 2147483647).toInt % x)) none (vN ((aRnd (i 46) &&& 2147483647).toInt % x))) := by
  have e1 : (1 : Int32) ≤ Int32.ofInt x ↔ 1 ≤ x := i32_le (x := 1) (by decide) hx
  unfold m_Model_numbers
  rw [if_neg (by decide), if_neg (by decide)]
  unfold m_Model_numbers_b23
  rw [if_neg (by decide), if_neg (by decide), if_neg (by decide), if_neg (by decide), if_neg (by decide), if_neg (by decide), if_neg (by decide), if_neg (by decide)]
  rcases Classical.em (1 ≤ x) with c | c
  · have hA : 0 ≤ (aRnd (i 46) &&& 2147483647).toInt ∧ (aRnd (i 46) &&& 2147483647).toInt ≤ 2147483647 := by
      obtain ⟨m, hm1, hm2⟩ := pk_andE (aRnd (i 46)) (m := 2147483647) 31 (by decide)
      rw [hm2, nI_toInt (by omega)]
      omega
    have hm : 0 ≤ (aRnd (i 46) &&& 2147483647).toInt % x ∧ (aRnd (i 46) &&& 2147483647).toInt % x < x := ⟨Int.emod_nonneg _ (by omega), Int.emod_lt_of_pos _ (by omega)⟩
    have hq : 0 ≤ (aRnd (i 46) &&& 2147483647).toInt / x ∧ (aRnd (i 46) &&& 2147483647).toInt / x ≤ 2147483647 := ⟨Int.ediv_nonneg hA.1 (by omega), Int.le_trans (Int.ediv_le_self _ hA.1) hA.2⟩
    rw [if_pos (e1.mpr c)]
    refine Or.inr ⟨c, upd (upd (upd i 46 (aRnd1 (i 46))) 46 (aRnd2 (aRnd1 (i 46)))) 46 (aRnd (i 46)), ?_, upd_at, fun q hq => by rw [upd_ne hq, upd_ne hq, upd_ne hq], rV_tN.mpr ⟨by omega, by omega, rfl⟩⟩
    simp only [ob1_s, upd_at]
    unfold cz
    rw [if_neg (fun h => absurd ((i32_zero hx).mp h) (by omega))]
    have er : (aRnd (i 46) &&& 2147483647) - (aRnd (i 46) &&& 2147483647) / Int32.ofInt x * Int32.ofInt x = Int32.ofInt ((aRnd (i 46) &&& 2147483647).toInt % x) := by
      have e9 : aRnd (i 46) &&& 2147483647 = Int32.ofInt (aRnd (i 46) &&& 2147483647).toInt := (Int32.ofInt_toInt _).symm
      have e8 : Int32.ofInt (aRnd (i 46) &&& 2147483647).toInt / Int32.ofInt x = Int32.ofInt ((aRnd (i 46) &&& 2147483647).toInt / x) := by
        apply Int32.toInt_inj.mp
        rw [Int32.toInt_div, i32_int (by omega) (by omega), i32_int (by omega) (by omega), i32_int (by omega) (by omega), Int.tdiv_eq_ediv_of_nonneg hA.1]
        exact Int.bmod_eq_of_le (by show -2147483648 ≤ _; omega) (by show _ < 2147483648; omega)
      rw [e9, e8, ← Int32.ofInt_mul, ← Int32.ofInt_sub, ← e9, Int.emod_def, Int.mul_comm]
    have hans := r_inB (n := n) (i := upd (upd (upd i 46 (aRnd1 (i 46))) 46 (aRnd2 (aRnd1 (i 46)))) 46 (aRnd (i 46))) (j := j) (a := a) (b := b) (B := B) (z := (aRnd (i 46) &&& 2147483647).toInt % x) (by omega)
    have ei : inB ((aRnd (i 46) &&& 2147483647).toInt % x) = .ok (tN ((aRnd (i 46) &&& 2147483647).toInt % x)) := by
      unfold inB
      rw [if_neg (by omega)]
    rw [ei] at hans
    rcases hans with ⟨e, h1, _⟩ | ⟨t, v, h1, h2, h3⟩
    · cases h1
    · injection h1 with h1
      subst h1
      rw [(rV_tN.mp h3).2.2] at h2
      rw [← i32_64 (by omega) (by omega), ← er] at h2
      exact h2
  · rw [if_neg (fun h => c (e1.mp h))]
    exact Or.inl ⟨by omega, rfl⟩

