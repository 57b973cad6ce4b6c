/-! the floor that the reference takes -/
theorem r_rt3 {n s : Nat} (hn : 100 ≤ n) (hs : s ≤ 1000000000) : m_Model_root n (Int64.ofInt ((3 * s * s : Nat) : Int)) = some (Int64.ofInt (fl3 (s : Int))) := by
  have hb : 3 * s * s ≤ 3 * 1000000000 * 1000000000 := Nat.mul_le_mul (Nat.mul_le_mul_left 3 hs) hs
  obtain ⟨r, e1, e2, e3⟩ := r_root (n := n) (z := 3 * s * s) hn (by omega)
  obtain ⟨r', f1, f2, f3⟩ := fl3_pos hs
  rw [e1, f1, sqr_one e2 e3 f2 f3]
theorem fl3_0 : fl3 0 = 0 := by decide
theorem r_floor {n : Nat} {p q d : Int} (hn : 100 ≤ n) (hp : -100000000 ≤ p ∧ p ≤ 100000000) (hq : -100000000 ≤ q ∧ q ≤ 100000000) (hd : d = 2 ∨ d = 6) : m_Model_floor n (Int64.ofInt p) (Int64.ofInt q) (Int64.ofInt d) = some (Int32.ofInt ((p + fl3 q) / d)) := by
  have hb := fl3_bd hq
  have e3 : 3 * Int64.ofInt q * Int64.ofInt q = Int64.ofInt ((3 * q.natAbs * q.natAbs : Nat) : Int) := by
    rw [show (3 : Int64) = Int64.ofInt 3 from rfl, ← Int64.ofInt_mul, ← Int64.ofInt_mul]
    congr 1
    have h1 : ((3 * q.natAbs * q.natAbs : Nat) : Int) = 3 * ((q.natAbs : Int) * (q.natAbs : Int)) := by
      rw [Nat.mul_assoc]
      rfl
    have h2 : (q.natAbs : Int) * (q.natAbs : Int) = q * q := by
      rcases (show (q.natAbs : Int) = q ∨ (q.natAbs : Int) = -q by omega) with e | e
      · rw [e]
      · rw [e, Int.neg_mul_neg]
    rw [h1, h2, Int.mul_assoc]
  have b43 : ∀ x : Int, -200000002 ≤ x ∧ x ≤ 200000002 → m_Model_floor_b43 n (Int64.ofInt d) (Int64.ofInt x) (Int64.ofInt p) = some (Int32.ofInt ((p + x) / d)) := fun x hx => by
    unfold m_Model_floor_b43
    rw [← Int64.ofInt_add, h_floorDiv (by omega) hd, ob0_s, Int64.toInt32_ofInt]
  have z0 : (lg_cmp (Int64.ofInt q) 0 = 0) ↔ q = 0 := by
    rw [show (0 : Int64) = Int64.ofInt 0 from rfl]
    exact lg_eq (by omega) (by decide)
  have z1 : (0 ≤ lg_cmp (Int64.ofInt q) 0) ↔ 0 ≤ q := by
    rw [show (0 : Int64) = Int64.ofInt 0 from rfl]
    exact lg_ge (by omega) (by decide)
  unfold m_Model_floor
  rw [e3, r_rt3 hn (by omega), ob0_s]
  rcases Classical.em (0 ≤ q) with c | c
  · have en : (q.natAbs : Int) = q := by omega
    rw [if_pos (z1.mpr c), en]
    unfold m_Model_floor_b28
    rcases Classical.em (q = 0) with d0 | d0
    · rw [if_pos (z0.mpr d0), show (0 : Int64) = Int64.ofInt 0 from rfl, b43 0 (by omega), d0, fl3_0]
    · rw [if_neg (fun h => d0 (z0.mp h)), b43 _ (by omega)]
  · have en : q = -(q.natAbs : Int) := by omega
    have ef : fl3 q = -(fl3 (q.natAbs : Int)) - 1 := by
      conv => lhs; rw [en]
      exact fl3_neg (by omega)
    rw [if_neg (fun h => c (z1.mp h))]
    unfold m_Model_floor_b28
    rw [if_neg (fun h => c (by have := z0.mp h; omega)), show (1 : Int64) = Int64.ofInt 1 from rfl, ← Int64.ofInt_neg, ← Int64.ofInt_sub, ← ef, b43 _ (by omega)]

