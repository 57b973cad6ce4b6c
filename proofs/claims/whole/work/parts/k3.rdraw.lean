/-! the reference draws -/
theorem r_max {n : Nat} {x y : Int} (hx : -1000000000 ≤ x ∧ x ≤ 1000000000) (hy : -1000000000 ≤ y ∧ y ≤ 1000000000) : m_Math_max n (Int32.ofInt x) (Int32.ofInt y) = some (Int32.ofInt (max x y)) := by
  unfold m_Math_max
  rcases Classical.em (x < y) with c | c
  · rw [if_pos ((I_lt (by omega) (by omega)).mpr c), Int.max_eq_right (by omega)]
  · rw [if_neg (fun e => c ((I_lt (by omega) (by omega)).mp e)), Int.max_eq_left (by omega)]
theorem r_min {n : Nat} {x y : Int} (hx : -1000000000 ≤ x ∧ x ≤ 1000000000) (hy : -1000000000 ≤ y ∧ y ≤ 1000000000) : m_Math_min n (Int32.ofInt x) (Int32.ofInt y) = some (Int32.ofInt (min x y)) := by
  unfold m_Math_min
  rcases Classical.em (y < x) with c | c
  · rw [if_pos ((I_lt (by omega) (by omega)).mpr c), Int.min_eq_right (by omega)]
  · rw [if_neg (fun e => c ((I_lt (by omega) (by omega)).mp e)), Int.min_eq_left (by omega)]
theorem r_d326 {n : Nat} {rc : (Nat → Int32) → (Nat → Int64) → (Nat → Nat → Int32) → (Nat → Nat → Int64) → Int32 → Int32 → Int32 → Int32 → Int32 → Int32 → Int32 → Int32 → Int32 → Int32 → Int32 → Int32 → Int32 → Option ((Nat → Int32) × (Nat → Int64) × (Nat → Nat → Int32) × (Nat → Nat → Int64) × Int32)} {i : Nat → Int32} {j : Nat → Int64} {a : Nat → Nat → Int32} {b : Nat → Nat → Int64} {v9 col v11 v13 v14 v15 v16 v17 v18 v19 v20 v22 : Int32} {byc : Bool} {v z : Int} (h11 : v11 = b1 (!byc)) (hv : -32 ≤ v ∧ v < 32) (hz : -100000000 ≤ z ∧ z ≤ 100000000) : m_Model_draws_b326 n rc i j a b v9 col v11 v13 v14 v15 v16 v17 v18 v19 v20 v22 (Int32.ofInt v) (Int32.ofInt z) = rc i j (updA a 44 (if -32 ≤ z ∧ z < 32 then upd (a 44) (if byc then ((z + 32) * 64 + v + 32).toNat else ((v + 32) * 64 + z + 32).toNat) col else a 44)) b v9 col v11 v13 v14 v15 v16 v17 v18 v19 v20 v22 (Int32.ofInt (v + 1)) := by
  subst h11
  have e1 : Int32.ofInt v + 1 = Int32.ofInt (v + 1) := by rw [Int32.ofInt_add]; rfl
  have ei : ∀ x y : Int, -32 ≤ x ∧ x < 32 → -32 ≤ y ∧ y < 32 → 64 * (Int32.ofInt x + 32) + Int32.ofInt y + 32 = nI ((x + 32) * 64 + y + 32).toNat := fun x y hx hy => by
    rw [nI_ofInt, Int.toNat_of_nonneg (by omega), Int.mul_comm (x + 32) 64, Int32.ofInt_add, Int32.ofInt_add, Int32.ofInt_mul, Int32.ofInt_add]
    rfl
  unfold m_Model_draws_b326
  rw [show (-32 : Int32) = Int32.ofInt (-32) from by decide, show (31 : Int32) = Int32.ofInt 31 from rfl]
  rcases Classical.em (z < -32) with h1 | h1
  · rw [if_pos ((I_lt (by omega) (by omega)).mpr h1), if_neg (show ¬ (-32 ≤ z ∧ z < 32) by omega), updA_self]
    unfold m_Model_draws_b383
    rw [ob1_s, e1]
  · rw [if_neg (fun e => h1 ((I_lt (by omega) (by omega)).mp e))]
    rcases Classical.em (31 < z) with h2 | h2
    · rw [if_pos ((I_lt (by omega) (by omega)).mpr h2), if_neg (show ¬ (-32 ≤ z ∧ z < 32) by omega), updA_self]
      unfold m_Model_draws_b383
      rw [ob1_s, e1]
    · rw [if_neg (fun e => h2 ((I_lt (by omega) (by omega)).mp e)), if_pos (show -32 ≤ z ∧ z < 32 by omega)]
      cases byc with
      | false =>
        rw [if_neg (by decide), ei _ _ hv (by omega)]
        unfold m_Model_draws_b380 m_Model_draws_b383
        rw [ck_n (by omega), cl_n (by omega), ob1_s, ob1_s, e1]
        rfl
      | true =>
        rw [if_pos (by decide), ei _ _ (by omega) hv]
        unfold m_Model_draws_b380 m_Model_draws_b383
        rw [ck_n (by omega), cl_n (by omega), ob1_s, ob1_s, e1]
        rfl

theorem r_d177 {n : Nat} {i : Nat → Int32} {j : Nat → Int64} {b : Nat → Nat → Int64} {low high : Nat → Int} {ld fo : Nat} {sl e : Int} {col : Int32} {byc : Bool} (hn : 100 ≤ n) (hl : ∀ k, k < 4 → -1000000 ≤ low k ∧ low k ≤ 1000000) (hh : ∀ k, k < 4 → -1000000 ≤ high k ∧ high k ≤ 1000000) (hld : ld < 3) (hfo : fo < 3) (hsl : sl = 0 ∨ sl = 1 ∨ sl = -1) (hbb : e ≤ 31) (hb2 : -100000000 ≤ e) : ∀ (k f : Nat) (v : Int) (a : Nat → Nat → Int32), k < f → -32 ≤ v → v ≤ 100000000 → k = (e + 1 - v).toNat → m_Model_draws_b177 n f i j a b (Int32.ofInt sl) col (b1 (!byc)) (Int32.ofInt (low ld)) (Int32.ofInt (low (ld + 1))) (Int32.ofInt (low fo)) (Int32.ofInt (low (fo + 1))) (Int32.ofInt (high ld)) (Int32.ofInt (high (ld + 1))) (Int32.ofInt (high fo)) (Int32.ofInt (high (fo + 1))) (Int32.ofInt e) (Int32.ofInt v) = some (i, j, updA a 44 (aDots col (aAcross low low high ld fo sl) byc k v (a 44)), b, 0) := by
  have l0 := hl ld (by omega)
  have l1 := hl (ld + 1) (by omega)
  have l2 := hl fo (by omega)
  have l3 := hl (fo + 1) (by omega)
  have g0 := hh ld (by omega)
  have g1 := hh (ld + 1) (by omega)
  have g2 := hh fo (by omega)
  have g3 := hh (fo + 1) (by omega)
  intro k
  induction k with
  | zero =>
    intro f v a hf hv hv2 hk
    match f, hf with
    | f + 1, _ =>
      rw [m_Model_draws_b177, if_pos ((I_lt (by omega) (by omega)).mpr (by omega))]
      show _ = some (i, j, updA a 44 (a 44), b, 0)
      rw [updA_self]
  | succ k ih =>
    intro f v a hf hv hv2 hk
    match f, hf with
    | f + 1, hf =>
      have go : ∀ z : Int, -100000000 ≤ z ∧ z ≤ 100000000 → z = aAcross low low high ld fo sl v → m_Model_draws_b326 n (m_Model_draws_b177 n f) i j a b (Int32.ofInt sl) col (b1 (!byc)) (Int32.ofInt (low ld)) (Int32.ofInt (low (ld + 1))) (Int32.ofInt (low fo)) (Int32.ofInt (low (fo + 1))) (Int32.ofInt (high ld)) (Int32.ofInt (high (ld + 1))) (Int32.ofInt (high fo)) (Int32.ofInt (high (fo + 1))) (Int32.ofInt e) (Int32.ofInt v) (Int32.ofInt z) = some (i, j, updA a 44 (aDots col (aAcross low low high ld fo sl) byc (k + 1) v (a 44)), b, 0) := by
        intro z hz ez
        rw [r_d326 rfl (by omega) hz, ih f (v + 1) _ (by omega) (by omega) (by omega) (by omega), updA_updA, updA_at, ez]
        rfl
      have sd : ∀ p q : Int, -1000000 ≤ p ∧ p ≤ 1000000 → -1000000 ≤ q ∧ q ≤ 1000000 → m_Model_sign n ((2 * (Int32.ofInt v).toInt64) - (Int32.ofInt p).toInt64) ((-(Int32.ofInt q)).toInt64) = some (Int32.ofInt (-(aSide p q v))) := by
        intro p q hp hq
        rw [← Int32.ofInt_neg, i32_64 (x := v) (by omega) (by omega), i32_64 (x := p) (by omega) (by omega), i32_64 (x := -q) (by omega) (by omega), show (2 : Int64) = Int64.ofInt 2 from rfl, ← Int64.ofInt_mul, ← Int64.ofInt_sub, r_sign (by omega) (by omega), aSide_sg, ← aSg_neg, show -(p - 2 * v) = 2 * v - p by omega]
      have fl : ∀ p q : Int, -1000000 ≤ p ∧ p ≤ 1000000 → -1000000 ≤ q ∧ q ≤ 1000000 → m_Model_floor n ((Int32.ofInt p + 1).toInt64) (Int32.ofInt q).toInt64 (2 : Int64) = some (Int32.ofInt (flH (p + 1) q)) := by
        intro p q hp hq
        rw [show Int32.ofInt p + (1 : Int32) = Int32.ofInt (p + 1) by rw [Int32.ofInt_add]; rfl, i32_64 (x := p + 1) (by omega) (by omega), i32_64 (x := q) (by omega) (by omega), show (2 : Int64) = Int64.ofInt 2 from rfl, r_floor hn (by omega) (by omega) (Or.inl rfl)]
        rfl
      have hsd1 := aSide_b (low ld) (low (ld + 1)) v
      have hsd2 := aSide_b (high ld) (high (ld + 1)) v
      rw [m_Model_draws_b177, if_neg (fun e9 => by have := (I_lt (by omega) (by omega)).mp e9; omega), sd _ _ l0 l1, ob0_s]
      rcases Classical.em (0 < aSide (low ld) (low (ld + 1)) v) with h1 | h1
      · have ez : flH (low fo + 1) (low (fo + 1)) = aAcross low low high ld fo sl v := by
          unfold aAcross
          rw [if_pos h1]
        have hzb := flH_b (p := low fo + 1) (q := low (fo + 1)) (M := 1000001) (by omega) (by omega) (by decide)
        rw [if_neg (by rw [show (0 : Int32) = Int32.ofInt 0 from rfl, I_le (by omega) (by omega)]; omega), fl _ _ l2 l3, ob0_s]
        exact go _ (by omega) ez
      · rw [if_pos (by rw [show (0 : Int32) = Int32.ofInt 0 from rfl, I_le (by omega) (by omega)]; omega), sd _ _ g0 g1, ob0_s]
        rcases Classical.em (aSide (high ld) (high (ld + 1)) v < 0) with h2 | h2
        · have ez : flH (high fo + 1) (high (fo + 1)) = aAcross low low high ld fo sl v := by
            unfold aAcross
            rw [if_neg h1, if_pos h2]
          have hzb := flH_b (p := high fo + 1) (q := high (fo + 1)) (M := 1000001) (by omega) (by omega) (by decide)
          rw [if_neg (by rw [show (0 : Int32) = Int32.ofInt 0 from rfl, I_le (by omega) (by omega)]; omega), fl _ _ g2 g3, ob0_s]
          exact go _ (by omega) ez
        · have ez : (3 * (low fo - sl * low (ld + 1)) + 3 + fl3 (3 * low (fo + 1) + sl * (2 * v - low ld))) / 6 = aAcross low low high ld fo sl v := by
            unfold aAcross
            rw [if_neg h1, if_neg h2]
          have e2 : -10000000 ≤ 3 * low (fo + 1) + sl * (2 * v - low ld) ∧ 3 * low (fo + 1) + sl * (2 * v - low ld) ≤ 10000000 := by rcases hsl with rfl | rfl | rfl <;> omega
          have e3 : -2000000 ≤ low fo - sl * low (ld + 1) ∧ low fo - sl * low (ld + 1) ≤ 2000000 := by rcases hsl with rfl | rfl | rfl <;> omega
          have hf3 := fl3_b e2
          have e4 : 3 * low fo - 3 * sl * low (ld + 1) + 3 = 3 * (low fo - sl * low (ld + 1)) + 3 := by rw [Int.mul_sub, Int.mul_assoc]
          rw [if_pos (by rw [show (0 : Int32) = Int32.ofInt 0 from rfl, I_le (by omega) (by omega)]; omega), ob1_s, ob1_s, i32_64 (x := low fo) (by omega) (by omega), i32_64 (x := sl) (by omega) (by omega), i32_64 (x := low (ld + 1)) (by omega) (by omega), i32_64 (x := low (fo + 1)) (by omega) (by omega), i32_64 (x := v) (by omega) (by omega), i32_64 (x := low ld) (by omega) (by omega), show (3 : Int64) = Int64.ofInt 3 from rfl, show (2 : Int64) = Int64.ofInt 2 from rfl, show (6 : Int64) = Int64.ofInt 6 from rfl]
          simp only [← Int64.ofInt_mul, ← Int64.ofInt_add, ← Int64.ofInt_sub]
          rw [e4, r_floor hn (by omega) (by omega) (Or.inr rfl), ob0_s]
          exact go _ (by omega) ez

