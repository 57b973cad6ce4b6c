/-! places of turtles: numbers -/
theorem L_int {x : Int} (h : -4000000000000000000 ≤ x ∧ x ≤ 4000000000000000000) : (Int64.ofInt x).toInt = x := Int64.toInt_ofInt_of_le (by show -9223372036854775808 ≤ _; omega) (by show _ < 9223372036854775808; omega)
theorem I_int {x : Int} (h : -2147483648 ≤ x ∧ x ≤ 2147483647) : (Int32.ofInt x).toInt = x := Int32.toInt_ofInt_of_le (by show -2147483648 ≤ _; omega) (by show _ < 2147483648; omega)
theorem L_le {x y : Int} (hx : -4000000000000000000 ≤ x ∧ x ≤ 4000000000000000000) (hy : -4000000000000000000 ≤ y ∧ y ≤ 4000000000000000000) : Int64.ofInt x ≤ Int64.ofInt y ↔ x ≤ y := by
  rw [Int64.le_iff_toInt_le, L_int hx, L_int hy]
theorem L_lt {x y : Int} (hx : -4000000000000000000 ≤ x ∧ x ≤ 4000000000000000000) (hy : -4000000000000000000 ≤ y ∧ y ≤ 4000000000000000000) : Int64.ofInt x < Int64.ofInt y ↔ x < y := by
  rw [Int64.lt_iff_toInt_lt, L_int hx, L_int hy]
theorem L_eq {x y : Int} (hx : -4000000000000000000 ≤ x ∧ x ≤ 4000000000000000000) (hy : -4000000000000000000 ≤ y ∧ y ≤ 4000000000000000000) : Int64.ofInt x = Int64.ofInt y ↔ x = y := ⟨fun e => by have := congrArg Int64.toInt e; rw [L_int hx, L_int hy] at this; exact this, fun e => by rw [e]⟩
theorem I_le {x y : Int} (hx : -2147483648 ≤ x ∧ x ≤ 2147483647) (hy : -2147483648 ≤ y ∧ y ≤ 2147483647) : Int32.ofInt x ≤ Int32.ofInt y ↔ x ≤ y := by
  rw [Int32.le_iff_toInt_le, I_int hx, I_int hy]
theorem I_lt {x y : Int} (hx : -2147483648 ≤ x ∧ x ≤ 2147483647) (hy : -2147483648 ≤ y ∧ y ≤ 2147483647) : Int32.ofInt x < Int32.ofInt y ↔ x < y := by
  rw [Int32.lt_iff_toInt_lt, I_int hx, I_int hy]
theorem I_eq {x y : Int} (hx : -2147483648 ≤ x ∧ x ≤ 2147483647) (hy : -2147483648 ≤ y ∧ y ≤ 2147483647) : Int32.ofInt x = Int32.ofInt y ↔ x = y := ⟨fun e => by have := congrArg Int32.toInt e; rw [I_int hx, I_int hy] at this; exact this, fun e => by rw [e]⟩
theorem L_divp {x y : Int} (hx : 0 ≤ x ∧ x ≤ 4000000000000000000) (hy : 1 ≤ y ∧ y ≤ 4000000000000000000) : Int64.ofInt x / Int64.ofInt y = Int64.ofInt (x / y) := by
  rw [← Int.tdiv_eq_ediv_of_nonneg hx.1]
  exact (Int64.ofInt_tdiv (by show -9223372036854775808 ≤ _; omega) (by show _ ≤ 9223372036854775807; omega) (by show -9223372036854775808 ≤ _; omega) (by show _ ≤ 9223372036854775807; omega)).symm
theorem fl3_bd {q : Int} (h : -100000000 ≤ q ∧ q ≤ 100000000) : -200000002 ≤ fl3 q ∧ fl3 q ≤ 200000001 := by
  unfold fl3
  dsimp only
  split <;> split <;> omega
theorem fl3_b {q M : Int} (h : -M ≤ q ∧ q ≤ M) : -(2 * M + 2) ≤ fl3 q ∧ fl3 q ≤ 2 * M + 1 := by
  unfold fl3
  dsimp only
  split <;> split <;> omega
theorem sq_le {s M : Int} (h1 : 0 ≤ s) (h2 : s ≤ M) : s * s ≤ M * M := Int.mul_le_mul h2 h2 h1 (by omega)
theorem h_root {n : Nat} {q : Int} (h : -100000000 ≤ q ∧ q ≤ 100000000) : m_Turtles_floorRoot n (Int64.ofInt q) = some (Int64.ofInt (fl3 q)) := by
  have b12 : ∀ s : Int, 0 ≤ s → s ≤ 100000000 → m_Turtles_floorRoot_b12 n (Int64.ofInt q) (Int64.ofInt s) = m_Turtles_floorRoot_b54 n (Int64.ofInt q) (Int64.ofInt (if (s * 1732050807 / 1000000000 + 1) * (s * 1732050807 / 1000000000 + 1) ≤ 3 * s * s then s * 1732050807 / 1000000000 + 1 else s * 1732050807 / 1000000000)) := by
    intro s h1 h2
    unfold m_Turtles_floorRoot_b12
    have e1 : ((3 : Int64) * Int64.ofInt s) * Int64.ofInt s = Int64.ofInt (3 * s * s) := by rw [Int64.ofInt_mul, Int64.ofInt_mul]; rfl
    have e2 : (Int64.ofInt s * (1732050807 : Int64)) / (1000000000 : Int64) = Int64.ofInt (s * 1732050807 / 1000000000) := by
      rw [← L_divp (by omega) (by omega), Int64.ofInt_mul]; rfl
    have h3 := sq_le h1 h2
    rw [ob1_s, ob1_s, e1, e2]
    generalize hr : s * 1732050807 / 1000000000 = r
    have hr0 : 0 ≤ r := by omega
    have hr1 : r ≤ 200000000 := by omega
    have h4 := sq_le (s := r + 1) (M := 200000001) (by omega) (by omega)
    have h5 : 0 ≤ (r + 1) * (r + 1) := Int.mul_nonneg (by omega) (by omega)
    have h6 : 0 ≤ s * s := Int.mul_nonneg h1 h1
    have h7 : 3 * s * s = 3 * (s * s) := Int.mul_assoc _ _ _
    have e3 : (Int64.ofInt r + (1 : Int64)) = Int64.ofInt (r + 1) := by rw [Int64.ofInt_add]; rfl
    have e4 : Int64.ofInt (r + 1) * Int64.ofInt (r + 1) = Int64.ofInt ((r + 1) * (r + 1)) := (Int64.ofInt_mul _ _).symm
    rw [e3, e4]
    rcases Classical.em ((r + 1) * (r + 1) ≤ 3 * s * s) with h9 | h9
    · rw [if_pos h9, if_neg (by rw [lg_cmp_gt, L_lt (by omega) (by omega)]; omega), ob1_s]
    · rw [if_neg h9, if_pos (by rw [lg_cmp_gt, L_lt (by omega) (by omega)]; omega)]
  unfold m_Turtles_floorRoot fl3
  dsimp only
  rcases Classical.em (q < 0) with h9 | h9
  · rw [if_neg (by rw [lg_cmp_ge, show (0 : Int64) = Int64.ofInt 0 from rfl, L_le (by omega) (by omega)]; omega), if_pos h9, if_pos h9, show -(Int64.ofInt q) = Int64.ofInt (-q) from (Int64.ofInt_neg q).symm, b12 (-q) (by omega) (by omega)]
    unfold m_Turtles_floorRoot_b54
    rw [if_neg (by rw [lg_cmp_ge, show (0 : Int64) = Int64.ofInt 0 from rfl, L_le (by omega) (by omega)]; omega), Int64.ofInt_sub, Int64.ofInt_neg]
    rfl
  · rw [if_pos (by rw [lg_cmp_ge, show (0 : Int64) = Int64.ofInt 0 from rfl, L_le (by omega) (by omega)]; omega), if_neg h9, if_neg h9, b12 q (by omega) (by omega)]
    unfold m_Turtles_floorRoot_b54
    rw [if_pos (by rw [lg_cmp_ge, show (0 : Int64) = Int64.ofInt 0 from rfl, L_le (by omega) (by omega)]; omega)]
theorem L_xor {x y : Int64} : (0 ≤ x ^^^ y) ↔ ((0 ≤ x) ↔ (0 ≤ y)) := by
  have k : ∀ z : Int64, (0 ≤ z) ↔ z.toBitVec.msb = false := by
    intro z
    rw [Int64.le_iff_toInt_le, BitVec.msb_eq_toInt]
    show (0 ≤ z.toBitVec.toInt) ↔ _
    rw [decide_eq_false_iff_not]
    omega
  rw [k, k, k, Int64.toBitVec_xor, BitVec.msb_xor]
  cases x.toBitVec.msb <;> cases y.toBitVec.msb <;> decide
theorem I_xor {x y : Int32} : (0 ≤ x ^^^ y) ↔ ((0 ≤ x) ↔ (0 ≤ y)) := by
  have k : ∀ z : Int32, (0 ≤ z) ↔ z.toBitVec.msb = false := by
    intro z
    rw [Int32.le_iff_toInt_le, BitVec.msb_eq_toInt]
    show (0 ≤ z.toBitVec.toInt) ↔ _
    rw [decide_eq_false_iff_not]
    omega
  rw [k, k, k, Int32.toBitVec_xor, BitVec.msb_xor]
  cases x.toBitVec.msb <;> cases y.toBitVec.msb <;> decide
theorem tdiv_neg {x y : Int} (hx : x < 0) (hy : 1 ≤ y) : x.tdiv y = -((-x) / y) := by
  rw [← Int.neg_neg x, Int.neg_tdiv, Int.tdiv_eq_ediv_of_nonneg (by omega), Int.neg_neg]
theorem L_div {x y : Int} (hx : -4000000000000000000 ≤ x ∧ x ≤ 4000000000000000000) (hy : 1 ≤ y ∧ y ≤ 1000) : Int64.ofInt x / Int64.ofInt y = Int64.ofInt (x.tdiv y) := (Int64.ofInt_tdiv (by show -9223372036854775808 ≤ _; omega) (by show _ ≤ 9223372036854775807; omega) (by show -9223372036854775808 ≤ _; omega) (by show _ ≤ 9223372036854775807; omega)).symm
theorem h_floorDiv {n : Nat} {x : Int} (hx : -1000000000000 ≤ x ∧ x ≤ 1000000000000) {y : Int} (hy : y = 2 ∨ y = 6) : m_Math_floorDiv n (Int64.ofInt x) (Int64.ofInt y) = some (Int64.ofInt (x / y)) := by
  unfold m_Math_floorDiv czl
  have hy0 : ¬ Int64.ofInt y = 0 := by
    rw [show (0 : Int64) = Int64.ofInt 0 from rfl, L_eq (by omega) (by omega)]
    omega
  rw [if_neg hy0, ob1_s, L_div (by omega) (by omega)]
  have hyp : 0 ≤ Int64.ofInt y := by
    rw [show (0 : Int64) = Int64.ofInt 0 from rfl, L_le (by omega) (by omega)]
    omega
  rcases Classical.em (0 ≤ x) with h0 | h0
  · have hxp : 0 ≤ Int64.ofInt x := by
      rw [show (0 : Int64) = Int64.ofInt 0 from rfl, L_le (by omega) (by omega)]
      omega
    rw [if_pos (by rw [lg_cmp_ge, L_xor]; exact ⟨fun _ => hyp, fun _ => hxp⟩), Int.tdiv_eq_ediv_of_nonneg h0]
  · have hxp : ¬ 0 ≤ Int64.ofInt x := by
      rw [show (0 : Int64) = Int64.ofInt 0 from rfl, L_le (by omega) (by omega)]
      omega
    rw [if_neg (by rw [lg_cmp_ge, L_xor]; exact fun e => hxp (e.mpr hyp)), tdiv_neg (by omega) (by omega), ← Int64.ofInt_mul]
    rcases hy with rfl | rfl
    · rcases Classical.em (-(-x / 2) * 2 = x) with h9 | h9
      · rw [if_pos (by rw [lg_cmp_eq, h9])]
        congr 2; omega
      · rw [if_neg (by rw [lg_cmp_eq, L_eq (by omega) (by omega)]; exact h9), show (1 : Int64) = Int64.ofInt 1 from rfl, ← Int64.ofInt_sub]
        congr 2; omega
    · rcases Classical.em (-(-x / 6) * 6 = x) with h9 | h9
      · rw [if_pos (by rw [lg_cmp_eq, h9])]
        congr 2; omega
      · rw [if_neg (by rw [lg_cmp_eq, L_eq (by omega) (by omega)]; exact h9), show (1 : Int64) = Int64.ofInt 1 from rfl, ← Int64.ofInt_sub]
        congr 2; omega
theorem h_floorMod {n : Nat} {x : Int} (hx : -2000000000 ≤ x ∧ x ≤ 2000000000) : m_Math_floorMod n (Int32.ofInt x) 12 = some (Int32.ofInt (x % 12)) := by
  unfold m_Math_floorMod cz
  have e1 : Int32.ofInt x - Int32.ofInt x / 12 * 12 = Int32.ofInt (x.tmod 12) := by
    rw [show (12 : Int32) = Int32.ofInt 12 from rfl, ← Int32.ofInt_tdiv (by show -2147483648 ≤ _; omega) (by show _ ≤ 2147483647; omega) (by decide) (by decide), ← Int32.ofInt_mul, ← Int32.ofInt_sub, Int.tmod_def, Int.mul_comm]
  rw [if_neg (by decide), ob1_s, e1]
  rcases Classical.em (0 ≤ x) with h0 | h0
  · have hxp : 0 ≤ Int32.ofInt x := by
      rw [show (0 : Int32) = Int32.ofInt 0 from rfl, I_le (by omega) (by omega)]
      omega
    rw [if_pos (by rw [I_xor]; exact ⟨fun _ => by decide, fun _ => hxp⟩), Int.tmod_eq_emod_of_nonneg h0]
  · have hxp : ¬ 0 ≤ Int32.ofInt x := by
      rw [show (0 : Int32) = Int32.ofInt 0 from rfl, I_le (by omega) (by omega)]
      omega
    have e2 : x.tmod 12 = -((-x) % 12) := by
      rw [Int.tmod_def, tdiv_neg (by omega) (by omega)]
      omega
    rw [if_neg (by rw [I_xor]; exact fun e => hxp (e.mpr (by decide))), e2]
    rcases Classical.em (-((-x) % 12) = 0) with h9 | h9
    · rw [if_pos (by rw [h9]; rfl)]
      congr 2; omega
    · rw [if_neg (by rw [show (0 : Int32) = Int32.ofInt 0 from rfl, I_eq (by omega) (by omega)]; exact h9), show (12 : Int32) = Int32.ofInt 12 from rfl, ← Int32.ofInt_add]
      congr 2; omega
theorem h_half {n : Nat} {p q : Int} (hp : -100000000 ≤ p ∧ p ≤ 100000000) (h : -100000000 ≤ q ∧ q ≤ 100000000) : m_Turtles_floorHalf n (Int64.ofInt p) (Int64.ofInt q) = some (Int64.ofInt (flH p q)) := by
  have hb := fl3_bd h
  unfold m_Turtles_floorHalf
  rw [h_root h, ob0_s, ← Int64.ofInt_add, show (2 : Int64) = Int64.ofInt 2 from rfl, h_floorDiv (by omega) (Or.inl rfl), ob0_s]
  rfl
theorem flH_b {p q M : Int} (hp : -M ≤ p ∧ p ≤ M) (hq : -M ≤ q ∧ q ≤ M) (hM : 1 ≤ M) : -(2 * M + 2) ≤ flH p q ∧ flH p q ≤ 2 * M + 1 := by
  have := fl3_b hq
  unfold flH
  omega
theorem h_sideOf {n : Nat} {p q v : Int} (hp : -100000000 ≤ p ∧ p ≤ 100000000) (h : -100000000 ≤ q ∧ q ≤ 100000000) (hv : -100000000 ≤ v ∧ v ≤ 100000000) : m_Turtles_sideOf n (Int32.ofInt p) (Int32.ofInt q) (Int32.ofInt v) = some (Int32.ofInt (aSide p q v)) := by
  have hb := fl3_bd h
  unfold m_Turtles_sideOf aSide
  rw [i32_64 (by omega) (by omega), i32_64 (by omega) (by omega), i32_64 (by omega) (by omega), ob1_s, show (2 : Int64) = Int64.ofInt 2 from rfl, ← Int64.ofInt_mul, ← Int64.ofInt_sub]
  rcases Classical.em (q = 0) with h0 | h0
  · rw [if_pos h0, if_pos (by rw [h0]; rfl)]
    unfold m_Long_compare
    rw [show (0 : Int64) = Int64.ofInt 0 from rfl]
    rcases Classical.em (0 < 2 * v - p) with h9 | h9
    · rw [if_pos h9, if_neg (by rw [lg_cmp_ge, L_le (by omega) (by omega)]; omega), ob0_s]
      rfl
    · rw [if_neg h9, if_pos (by rw [lg_cmp_ge, L_le (by omega) (by omega)]; omega)]
      rcases Classical.em (2 * v - p = 0) with h8 | h8
      · rw [if_pos h8, if_pos (by rw [lg_cmp_eq, L_eq (by omega) (by omega)]; omega), ob0_s]
        rfl
      · rw [if_neg h8, if_neg (by rw [lg_cmp_eq, L_eq (by omega) (by omega)]; omega), ob0_s]
        rfl
  · rw [if_neg h0, if_neg (by rw [show (0 : Int32) = Int32.ofInt 0 from rfl, I_eq (by omega) (by omega)]; exact h0), h_root h, ob0_s]
    rcases Classical.em (fl3 q < 2 * v - p) with h9 | h9
    · rw [if_pos h9, if_neg (by rw [lg_cmp_ge, L_le (by omega) (by omega)]; omega)]
      rfl
    · rw [if_neg h9, if_pos (by rw [lg_cmp_ge, L_le (by omega) (by omega)]; omega)]
      rfl

