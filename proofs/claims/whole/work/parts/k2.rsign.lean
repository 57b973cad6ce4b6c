/-! on which side: the sign of x + q roots -/
theorem irr3 (q : Nat) : ∀ A : Nat, A * A = 3 * q * q → q = 0 := by
  induction q using Nat.strongRecOn with
  | _ q ih =>
    intro A h
    have m3 : ∀ x y : Nat, x * x = 3 * y → x % 3 = 0 := by
      intro x y e
      have e1 : (x * x) % 3 = 0 := by rw [e]; exact Nat.mul_mod_right 3 y
      rw [Nat.mul_mod] at e1
      rcases (by omega : x % 3 = 0 ∨ x % 3 = 1 ∨ x % 3 = 2) with c | c | c
      · exact c
      · rw [c] at e1; exact absurd e1 (by decide)
      · rw [c] at e1; exact absurd e1 (by decide)
    have hA := m3 A (q * q) (by rw [h, Nat.mul_assoc])
    obtain ⟨B, eB⟩ : ∃ B, A = 3 * B := ⟨A / 3, by omega⟩
    have h2 : A * A = 9 * (B * B) := by rw [eB, Nat.mul_mul_mul_comm]
    rw [Nat.mul_assoc] at h
    have hq := m3 q (B * B) (by omega)
    obtain ⟨C, eC⟩ : ∃ C, q = 3 * C := ⟨q / 3, by omega⟩
    have h3 : q * q = 9 * (C * C) := by rw [eC, Nat.mul_mul_mul_comm]
    rcases Nat.eq_zero_or_pos q with z | z
    · exact z
    · have := ih C (by omega) B (by rw [Nat.mul_assoc]; omega)
      omega
theorem sg_key {A Q r : Nat} (hQ : 0 < Q) (h1 : r * r ≤ 3 * Q * Q) (h2 : 3 * Q * Q < (r + 1) * (r + 1)) : (r < A → 3 * Q * Q < A * A) ∧ (A ≤ r → A * A < 3 * Q * Q) := by
  refine ⟨fun h => ?_, fun h => ?_⟩
  · have := Nat.mul_le_mul (show r + 1 ≤ A from h) (show r + 1 ≤ A from h)
    omega
  · have h3 := Nat.mul_le_mul h h
    rcases Nat.lt_or_ge (A * A) (3 * Q * Q) with c | c
    · exact c
    · have := irr3 Q A (by omega)
      omega
def aSg (x q : Int) : Int := if q = 0 then (if x < 0 then -1 else if x = 0 then 0 else 1) else if fl3 q < -x then -1 else 1
theorem aSide_sg (p q v : Int) : aSide p q v = aSg (p - 2 * v) q := by
  unfold aSide aSg
  rcases Classical.em (q = 0) with c | c
  · rw [if_pos c, if_pos c]
    rcases (by omega : 0 < 2 * v - p ∨ 2 * v - p = 0 ∨ 2 * v - p < 0) with d | d | d
    · rw [if_pos d, if_pos (show p - 2 * v < 0 by omega)]
    · rw [if_neg (show ¬ 0 < 2 * v - p by omega), if_pos d, if_neg (show ¬ p - 2 * v < 0 by omega), if_pos (show p - 2 * v = 0 by omega)]
    · rw [if_neg (show ¬ 0 < 2 * v - p by omega), if_neg (show ¬ 2 * v - p = 0 by omega), if_neg (show ¬ p - 2 * v < 0 by omega), if_neg (show ¬ p - 2 * v = 0 by omega)]
  · rw [if_neg c, if_neg c, show -(p - 2 * v) = 2 * v - p by omega]
theorem fl3_ne {q : Int} (h : q ≠ 0) : fl3 (-q) = -(fl3 q) - 1 := by
  rcases (by omega : 0 < q ∨ q < 0) with c | c
  · have := fl3_neg (s := q.natAbs) (by omega)
    rw [show (q.natAbs : Int) = q by omega] at this
    exact this
  · have := fl3_neg (s := q.natAbs) (by omega)
    rw [show (q.natAbs : Int) = -q by omega, Int.neg_neg] at this
    omega
theorem aSg_neg (x q : Int) : aSg (-x) (-q) = - aSg x q := by
  unfold aSg
  rcases Classical.em (q = 0) with c | c
  · rw [if_pos c, if_pos (show -q = 0 by omega)]
    rcases (by omega : x < 0 ∨ x = 0 ∨ 0 < x) with d | d | d
    · rw [if_pos d, if_neg (show ¬ -x < 0 by omega), if_neg (show ¬ -x = 0 by omega)]; rfl
    · rw [if_neg (show ¬ x < 0 by omega), if_pos d, if_neg (show ¬ -x < 0 by omega), if_pos (show -x = 0 by omega)]; rfl
    · rw [if_neg (show ¬ x < 0 by omega), if_neg (show ¬ x = 0 by omega), if_pos (show -x < 0 by omega)]
  · rw [if_neg c, if_neg (show ¬ -q = 0 by omega), fl3_ne c]
    rcases Classical.em (fl3 q < -x) with d | d
    · rw [if_pos d, if_neg (by omega)]; rfl
    · rw [if_neg d, if_pos (by omega)]
theorem fl3_nn (q : Nat) : 0 ≤ fl3 (q : Int) := by
  unfold fl3
  dsimp only
  rw [if_neg (show ¬ (q : Int) < 0 by omega), if_neg (show ¬ (q : Int) < 0 by omega)]
  have h0 : (0 : Int) ≤ (q : Int) * 1732050807 / 1000000000 := by omega
  split <;> omega
theorem r_compare {n : Nat} {z : Int} (h : -9000000000000000000 ≤ z ∧ z ≤ 9000000000000000000) : m_Long_compare n (Int64.ofInt z) 0 = some (Int32.ofInt (if z < 0 then -1 else if z = 0 then 0 else 1)) := by
  unfold m_Long_compare
  rw [show (0 : Int64) = Int64.ofInt 0 from rfl]
  rcases (by omega : z < 0 ∨ z = 0 ∨ 0 < z) with d | d | d
  · rw [if_neg (fun e => by have := (lg_ge h (by decide)).mp e; omega), if_pos d]
    exact congrArg some (by decide)
  · rw [if_pos ((lg_ge h (by decide)).mpr (by omega)), if_pos ((lg_eq h (by decide)).mpr d), if_neg (by omega), if_pos d]
    rfl
  · rw [if_pos ((lg_ge h (by decide)).mpr (by omega)), if_neg (fun e => by have := (lg_eq h (by decide)).mp e; omega), if_neg (by omega), if_neg (by omega)]
    rfl
theorem r_sign {n : Nat} {x q : Int} (hx : -5000000000 ≤ x ∧ x ≤ 5000000000) (hq : -3000000 ≤ q ∧ q ≤ 3000000) : m_Model_sign n (Int64.ofInt x) (Int64.ofInt q) = some (Int32.ofInt (aSg x q)) := by
  have hf := fl3_b hq
  have b16 : m_Model_sign_b16 n (Int64.ofInt x) = some (Int32.ofInt (if x ≤ 0 then -1 else 1)) := by
    unfold m_Model_sign_b16
    rw [show (0 : Int64) = Int64.ofInt 0 from rfl]
    rcases Classical.em (x ≤ 0) with c | c
    · rw [if_pos ((lg_le (by omega) (by decide)).mpr c), if_pos c]
      exact congrArg some (by decide)
    · rw [if_neg (fun e => c ((lg_le (by omega) (by decide)).mp e)), if_neg c]
      rfl
  unfold m_Model_sign
  rw [show (20000000 : Int64) = Int64.ofInt 20000000 from rfl, show (-Int64.ofInt 20000000 : Int64) = Int64.ofInt (-20000000) by decide]
  rcases Classical.em (20000000 < x) with c1 | c1
  · rw [if_pos ((lg_gt (by omega) (by decide)).mpr c1), b16, if_neg (by omega)]
    unfold aSg
    rcases Classical.em (q = 0) with c | c
    · rw [if_pos c, if_neg (by omega), if_neg (by omega)]
    · rw [if_neg c, if_neg (by omega)]
  rw [if_neg (fun e => c1 ((lg_gt (by omega) (by decide)).mp e))]
  rcases Classical.em (-20000000 ≤ x) with c2 | c2
  · rw [if_pos ((lg_ge (by omega) (by decide)).mpr c2)]
    obtain ⟨A, eA⟩ : ∃ A, A = x.natAbs := ⟨_, rfl⟩
    obtain ⟨Q, eQ⟩ : ∃ Q, Q = q.natAbs := ⟨_, rfl⟩
    obtain ⟨r, f1, f2, f3⟩ := fl3_pos (s := Q) (by omega)
    have hA : A * A ≤ 20000000 * 20000000 := Nat.mul_le_mul (by omega) (by omega)
    have hQ : 3 * Q * Q ≤ 3 * 3000000 * 3000000 := Nat.mul_le_mul (Nat.mul_le_mul_left 3 (by omega)) (by omega)
    have exx : x * x = ((A * A : Nat) : Int) := by
      rw [eA, Int.natCast_mul]
      exact (Int.natAbs_mul_self' x).symm
    have eqq : 3 * q * q = ((3 * Q * Q : Nat) : Int) := by
      rw [eQ, Int.natCast_mul, Int.natCast_mul, Int.mul_assoc, Int.mul_assoc]
      congr 1
      exact (Int.natAbs_mul_self' q).symm
    have b67 : ∀ u c : Int, -1000000000000000 ≤ u ∧ u ≤ 1000000000000000 → c = 1 ∨ c = -1 → m_Model_sign_b67 n (Int64.ofInt u) (Int64.ofInt c) (3 * Int64.ofInt q * Int64.ofInt q) = some (Int32.ofInt (if u + 3 * q * q * c < 0 then -1 else if u + 3 * q * q * c = 0 then 0 else 1)) := by
      intro u c hu hc
      unfold m_Model_sign_b67
      rw [show (3 : Int64) = Int64.ofInt 3 from rfl, ← Int64.ofInt_mul, ← Int64.ofInt_mul, ← Int64.ofInt_mul, ob1_s, ← Int64.ofInt_add, r_compare (by rcases hc with rfl | rfl <;> omega), ob0_s]
    have b44 : ∀ c : Int, c = 1 ∨ c = -1 → m_Model_sign_b44 n (Int64.ofInt q) (Int64.ofInt c) (Int64.ofInt x * Int64.ofInt x) = some (Int32.ofInt (if x * x * c + 3 * q * q * (if 0 ≤ q then 1 else -1) < 0 then -1 else if x * x * c + 3 * q * q * (if 0 ≤ q then 1 else -1) = 0 then 0 else 1)) := by
      intro c hc
      unfold m_Model_sign_b44
      rw [← Int64.ofInt_mul, ← Int64.ofInt_mul, ob1_s, show (0 : Int64) = Int64.ofInt 0 from rfl]
      have hu : -1000000000000000 ≤ x * x * c ∧ x * x * c ≤ 1000000000000000 := by rcases hc with rfl | rfl <;> omega
      rcases Classical.em (0 ≤ q) with d | d
      · rw [if_pos ((lg_ge (by omega) (by decide)).mpr d), if_pos d]
        exact b67 _ 1 hu (Or.inl rfl)
      · rw [if_neg (fun e => d ((lg_ge (by omega) (by decide)).mp e)), if_neg d, show (-1 : Int64) = Int64.ofInt (-1) by decide]
        exact b67 _ (-1) hu (Or.inr rfl)
    have fin : ∀ c : Int, (c = if 0 ≤ x then 1 else -1) → (if x * x * c + 3 * q * q * (if 0 ≤ q then 1 else -1) < 0 then -1 else if x * x * c + 3 * q * q * (if 0 ≤ q then 1 else -1) = 0 then 0 else 1) = aSg x q := by
      intro c hc
      rw [exx, eqq]
      unfold aSg
      have hAp : x ≠ 0 → 0 < A * A := fun h => Nat.mul_pos (by omega) (by omega)
      have hA0 : x = 0 → A * A = 0 := fun h => by rw [eA, h]; rfl
      rcases Classical.em (q = 0) with c0 | c0
      · have hQ0 : 3 * Q * Q = 0 := by rw [eQ, c0]; rfl
        rw [if_pos c0, hQ0]
        rcases (by omega : x < 0 ∨ x = 0 ∨ 0 < x) with d | d | d
        · have := hAp (by omega)
          rw [if_neg (by omega)] at hc
          subst hc
          rw [if_pos (by omega), if_pos d]
        · have := hA0 d
          rw [if_pos (by omega)] at hc
          subst hc
          rw [if_neg (by omega), if_pos (by omega), if_neg (by omega), if_pos d]
        · have := hAp (by omega)
          rw [if_pos (by omega)] at hc
          subst hc
          rw [if_neg (by omega), if_neg (by omega), if_neg (by omega), if_neg (by omega)]
      · have hk := sg_key (A := A) (Q := Q) (r := r) (by omega) f2 f3
        have hQp : 0 < 3 * Q * Q := Nat.mul_pos (Nat.mul_pos (by decide) (by omega)) (by omega)
        rw [if_neg c0]
        rcases (by omega : 0 < q ∨ q < 0) with d | d
        · have ef : fl3 q = (r : Int) := by rw [← f1, show (Q : Int) = q by omega]
          rw [if_pos (show 0 ≤ q by omega), ef]
          rcases Classical.em (0 ≤ x) with dx | dx
          · rw [if_pos dx] at hc
            subst hc
            rw [if_neg (by omega), if_neg (by omega), if_neg (by omega)]
          · rw [if_neg dx] at hc
            subst hc
            rcases Classical.em (r < A) with dr | dr
            · have := hk.1 dr
              rw [if_pos (by omega), if_pos (by omega)]
            · have := hk.2 (by omega)
              rw [if_neg (by omega), if_neg (by omega), if_neg (by omega)]
        · have ef : fl3 q = -(r : Int) - 1 := by
            have := fl3_ne (q := q) c0
            rw [show -q = (Q : Int) by omega, f1] at this
            omega
          rw [if_neg (show ¬ 0 ≤ q by omega), ef]
          rcases Classical.em (0 ≤ x) with dx | dx
          · rw [if_pos dx] at hc
            subst hc
            rcases Classical.em (r < A) with dr | dr
            · have := hk.1 dr
              rw [if_neg (by omega), if_neg (by omega), if_neg (by omega)]
            · have := hk.2 (by omega)
              rw [if_pos (by omega), if_pos (by omega)]
          · rw [if_neg dx] at hc
            subst hc
            rw [if_pos (by omega), if_pos (by omega)]
    rw [show (0 : Int64) = Int64.ofInt 0 from rfl]
    rcases Classical.em (0 ≤ x) with d | d
    · rw [if_pos ((lg_ge (by omega) (by decide)).mpr d), show (1 : Int64) = Int64.ofInt 1 from rfl, b44 1 (Or.inl rfl), fin 1 (by rw [if_pos d])]
    · rw [if_neg (fun e => d ((lg_ge (by omega) (by decide)).mp e)), show (-1 : Int64) = Int64.ofInt (-1) by decide, b44 (-1) (Or.inr rfl), fin (-1) (by rw [if_neg d])]
  · rw [if_neg (fun e => c2 ((lg_ge (by omega) (by decide)).mp e)), b16, if_pos (by omega)]
    unfold aSg
    rcases Classical.em (q = 0) with c | c
    · rw [if_pos c, if_pos (by omega)]
    · rw [if_neg c, if_pos (by omega)]

