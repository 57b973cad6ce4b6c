/-! the root that the reference takes -/
theorem sqr_le {a b : Nat} (h : a * a ≤ b * b) : a ≤ b := by
  rcases Nat.lt_or_ge b a with c | c
  · have : b * b < a * a := Nat.mul_self_lt_mul_self c
    omega
  · exact c
theorem sqr_one {a b z : Nat} (h1 : a * a ≤ z) (h2 : z < (a + 1) * (a + 1)) (h3 : b * b ≤ z) (h4 : z < (b + 1) * (b + 1)) : a = b := by
  have e1 : a < b + 1 := by
    rcases Nat.lt_or_ge a (b + 1) with c | c
    · exact c
    · have := Nat.mul_le_mul c c
      omega
  have e2 : b < a + 1 := by
    rcases Nat.lt_or_ge b (a + 1) with c | c
    · exact c
    · have := Nat.mul_le_mul c c
      omega
  omega
theorem div_two {x N r : Nat} (hN : 0 < N) (h : r = x / N) : x + N ≤ (r + 2) * N := by
  subst h
  have h1 := Nat.div_add_mod x N
  have h2 := Nat.mod_lt x hN
  rw [Nat.add_mul, Nat.mul_comm (x / N) N]
  generalize N * (x / N) = y at h1 ⊢
  omega
/-- the first guess, or one more -/
theorem guess {s r : Nat} (hs : s ≤ 1000000000) (hr : r = s * 1732050807 / 1000000000) : r * r ≤ 3 * s * s ∧ 3 * s * s < (r + 2) * (r + 2) := by
  have h1 : r * 1000000000 ≤ s * 1732050807 := by omega
  have h2 : s * 1732050807 + 1000000000 ≤ (r + 2) * 1000000000 := div_two (by decide) hr
  have d1 : (r * 1000000000) * (r * 1000000000) ≤ (s * 1732050807) * (s * 1732050807) := Nat.mul_le_mul h1 h1
  have d2 : (s * 1732050807 + 1000000000) * (s * 1732050807 + 1000000000) ≤ ((r + 2) * 1000000000) * ((r + 2) * 1000000000) := Nat.mul_le_mul h2 h2
  have d3 : s * s ≤ 1000000000 * s := Nat.mul_le_mul_right s hs
  have e1 : (r * 1000000000) * (r * 1000000000) = (r * r) * 1000000000000000000 := by
    rw [Nat.mul_mul_mul_comm]
  have e2 : (s * 1732050807) * (s * 1732050807) = (s * s) * 2999999998029351249 := by
    rw [Nat.mul_mul_mul_comm]
  have e3 : ((r + 2) * 1000000000) * ((r + 2) * 1000000000) = ((r + 2) * (r + 2)) * 1000000000000000000 := by
    rw [Nat.mul_mul_mul_comm]
  have e4 : (s * 1732050807 + 1000000000) * (s * 1732050807 + 1000000000) = (s * s) * 2999999998029351249 + s * 3464101614000000000 + 1000000000000000000 := by
    rw [Nat.add_mul, Nat.mul_add, Nat.mul_add, e2]
    omega
  rw [e1, e2] at d1
  rw [e3, e4] at d2
  have e5 : 3 * s * s = 3 * (s * s) := Nat.mul_assoc 3 s s
  rw [e5]
  generalize s * s = q at d1 d2 d3 ⊢
  generalize r * r = p at d1 ⊢
  generalize (r + 2) * (r + 2) = u at d2 ⊢
  omega
theorem fl3_pos {s : Nat} (hs : s ≤ 1000000000) : ∃ r : Nat, fl3 (s : Int) = (r : Int) ∧ r * r ≤ 3 * s * s ∧ 3 * s * s < (r + 1) * (r + 1) := by
  obtain ⟨g1, g2⟩ := guess hs rfl
  have e0 : ¬ (s : Int) < 0 := by omega
  have er : (s : Int) * 1732050807 / 1000000000 = ((s * 1732050807 / 1000000000 : Nat) : Int) := rfl
  unfold fl3
  simp only [if_neg e0, er]
  generalize s * 1732050807 / 1000000000 = r at g1 g2 ⊢
  have ec : (((r : Int) + 1) * ((r : Int) + 1) ≤ 3 * (s : Int) * (s : Int)) ↔ (r + 1) * (r + 1) ≤ 3 * s * s := by
    have : ((r : Int) + 1) * ((r : Int) + 1) = (((r + 1) * (r + 1) : Nat) : Int) := rfl
    have h2 : 3 * (s : Int) * (s : Int) = ((3 * s * s : Nat) : Int) := rfl
    rw [this, h2]
    exact Int.ofNat_le
  rcases Classical.em ((r + 1) * (r + 1) ≤ 3 * s * s) with c | c
  · rw [if_pos (ec.mpr c)]
    exact ⟨r + 1, rfl, c, g2⟩
  · rw [if_neg (fun h => c (ec.mp h))]
    exact ⟨r, rfl, g1, by omega⟩
theorem fl3_neg {s : Nat} (h0 : 0 < s) : fl3 (-(s : Int)) = -(fl3 (s : Int)) - 1 := by
  have e0 : ¬ (s : Int) < 0 := by omega
  have e1 : -(s : Int) < 0 := by omega
  unfold fl3
  simp only [if_neg e0, if_pos e1, Int.neg_neg]
theorem r_shr {k : Nat} (h : k < 62) : Int64.ofInt ((2 ^ (k + 1) : Nat) : Int) >>> ((1 : Int32).toInt64 &&& 63) = Int64.ofInt ((2 ^ k : Nat) : Int) := by
  have hp : 2 ^ (k + 1) ≤ 2 ^ 62 := Nat.pow_le_pow_right (by decide) (by omega)
  have hp2 : 2 ^ (k + 1) = 2 ^ k * 2 := Nat.pow_succ 2 k
  have h62 : 2 ^ 62 = 4611686018427387904 := by decide
  apply Int64.toInt_inj.mp
  rw [l_shr _ _ 1 (by decide), i64_ti (by omega) (by omega), i64_ti (by omega) (by omega), Int.shiftRight_eq_div_pow]
  omega
theorem r_root_b {n : Nat} {z : Nat} (hz : z < 4611686018427387904) : ∀ (k acc f : Nat), k ≤ 30 → k + 1 < f → acc + 2 ^ (k + 1) ≤ 2147483648 → acc * acc ≤ z → z < (acc + 2 ^ (k + 1)) * (acc + 2 ^ (k + 1)) → ∃ r : Nat, m_Model_root_b7 n f (Int64.ofInt (z : Int)) (Int64.ofInt (acc : Int)) (Int64.ofInt ((2 ^ k : Nat) : Int)) = some (Int64.ofInt (r : Int)) ∧ r * r ≤ z ∧ z < (r + 1) * (r + 1) := by
  intro k
  induction k with
  | zero =>
    intro acc f hk hf h1 h2 h3
    obtain ⟨f, rfl⟩ : ∃ f', f = f' + 1 := ⟨f - 1, by omega⟩
    obtain ⟨f, rfl⟩ : ∃ f', f = f' + 1 := ⟨f - 1, by omega⟩
    have h1 : acc + 2 ≤ 2147483648 := h1
    have hb : (acc + 1) * (acc + 1) ≤ 2147483648 * 2147483648 := Nat.mul_le_mul (by omega) (by omega)
    have ea : Int64.ofInt (acc : Int) + Int64.ofInt ((2 ^ 0 : Nat) : Int) = Int64.ofInt ((acc + 1 : Nat) : Int) := by rw [← Int64.ofInt_add]; rfl
    have em : Int64.ofInt ((acc + 1 : Nat) : Int) * Int64.ofInt ((acc + 1 : Nat) : Int) = Int64.ofInt (((acc + 1) * (acc + 1) : Nat) : Int) := by rw [← Int64.ofInt_mul]; rfl
    have es : Int64.ofInt ((2 ^ 0 : Nat) : Int) >>> ((1 : Int32).toInt64 &&& 63) = 0 := by decide
    have last : ∀ c : Nat, m_Model_root_b7 n (f + 1) (Int64.ofInt (z : Int)) (Int64.ofInt (c : Int)) 0 = some (Int64.ofInt (c : Int)) := fun c => by
      rw [m_Model_root_b7, if_pos (by decide)]
    have g0 : ¬ lg_cmp (Int64.ofInt ((2 ^ 0 : Nat) : Int)) 0 ≤ 0 := by decide
    have g1 : ¬ 0 < lg_cmp (Int64.ofInt ((acc + 1 : Nat) : Int)) 3000000000 := fun h => by
      have := (lg_gt (a := ((acc + 1 : Nat) : Int)) (b := 3000000000) ⟨by omega, by omega⟩ ⟨by decide, by decide⟩).mp h
      omega
    have g2 : (0 < lg_cmp (Int64.ofInt (((acc + 1) * (acc + 1) : Nat) : Int)) (Int64.ofInt (z : Int))) ↔ z < (acc + 1) * (acc + 1) := by
      rw [lg_gt ⟨by omega, by omega⟩ ⟨by omega, by omega⟩]
      exact Int.ofNat_lt
    rw [m_Model_root_b7, if_neg g0, ea, if_neg g1, em]
    unfold m_Model_root_b44
    rcases Classical.em (z < (acc + 1) * (acc + 1)) with c | c
    · rw [if_pos (g2.mpr c), ob1_s, es, last]
      exact ⟨acc, rfl, h2, c⟩
    · rw [if_neg (fun h => c (g2.mp h)), ob1_s, ob1_s, es, last]
      exact ⟨acc + 1, rfl, by omega, h3⟩
  | succ k ih =>
    intro acc f hk hf h1 h2 h3
    obtain ⟨f, rfl⟩ : ∃ f', f = f' + 1 := ⟨f - 1, by omega⟩
    have hp2 : 2 ^ (k + 1 + 1) = 2 ^ (k + 1) * 2 := Nat.pow_succ 2 (k + 1)
    have hp0 : 0 < 2 ^ (k + 1) := Nat.pow_pos (by decide)
    have hs := r_shr (k := k) (by omega)
    rw [hp2] at h1 h3
    generalize hP : 2 ^ (k + 1) = p at h1 h3 hp0 hs ih ⊢
    have hb : (acc + p) * (acc + p) ≤ 2147483648 * 2147483648 := Nat.mul_le_mul (by omega) (by omega)
    have ea : Int64.ofInt (acc : Int) + Int64.ofInt (p : Int) = Int64.ofInt ((acc + p : Nat) : Int) := by rw [← Int64.ofInt_add]; rfl
    have em : Int64.ofInt ((acc + p : Nat) : Int) * Int64.ofInt ((acc + p : Nat) : Int) = Int64.ofInt (((acc + p) * (acc + p) : Nat) : Int) := by rw [← Int64.ofInt_mul]; rfl
    have g0 : ¬ lg_cmp (Int64.ofInt (p : Int)) 0 ≤ 0 := fun h => by
      have := (lg_le (a := (p : Int)) (b := 0) ⟨by omega, by omega⟩ ⟨by decide, by decide⟩).mp h
      omega
    have g1 : ¬ 0 < lg_cmp (Int64.ofInt ((acc + p : Nat) : Int)) 3000000000 := fun h => by
      have := (lg_gt (a := ((acc + p : Nat) : Int)) (b := 3000000000) ⟨by omega, by omega⟩ ⟨by decide, by decide⟩).mp h
      omega
    have g2 : (0 < lg_cmp (Int64.ofInt (((acc + p) * (acc + p) : Nat) : Int)) (Int64.ofInt (z : Int))) ↔ z < (acc + p) * (acc + p) := by
      rw [lg_gt ⟨by omega, by omega⟩ ⟨by omega, by omega⟩]
      exact Int.ofNat_lt
    rw [m_Model_root_b7, if_neg g0, ea, if_neg g1, em]
    unfold m_Model_root_b44
    rcases Classical.em (z < (acc + p) * (acc + p)) with c | c
    · rw [if_pos (g2.mpr c), ob1_s, hs]
      exact ih acc f (by omega) (by omega) (by omega) h2 c
    · rw [if_neg (fun h => c (g2.mp h)), ob1_s, ob1_s, hs]
      refine ih (acc + p) f (by omega) (by omega) (by omega) (by omega) ?_
      rw [show acc + p + p = acc + p * 2 by omega]
      exact h3
theorem r_root {n z : Nat} (hn : 100 ≤ n) (hz : z < 4611686018427387904) : ∃ r : Nat, m_Model_root n (Int64.ofInt (z : Int)) = some (Int64.ofInt (r : Int)) ∧ r * r ≤ z ∧ z < (r + 1) * (r + 1) := by
  unfold m_Model_root
  exact r_root_b hz 30 0 n (by decide) (by omega) (by decide) (by omega) (by rw [show (0 + 2 ^ (30 + 1)) * (0 + 2 ^ (30 + 1)) = 4611686018427387904 from by decide]; exact hz)

