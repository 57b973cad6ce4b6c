/-! the reference reads signs -/
theorem sBy_n {x : Nat} (h : x < 128) : sBy x = nI x := by
  unfold sBy
  rw [if_pos h, nI_ofInt]
theorem sBy_neg {x : Nat} (h : 128 ≤ x) (h2 : x < 256) : sBy x < 0 := by
  unfold sBy
  rw [if_neg (by omega), Int32.lt_iff_toInt_lt, Int32.toInt_ofInt_of_le (by show -2147483648 ≤ _; omega) (by show _ < 2147483648; omega)]
  show (x : Int) - 256 < 0
  omega
def gdC (x : Nat) : Bool := x == 10 || decide (32 ≤ x ∧ x ≤ 126)
theorem r_good {n x : Nat} (h : x < 256) : m_Model_isGood n (sBy x) = some (b1 (gdC x)) := by
  unfold m_Model_isGood gdC
  rcases Nat.lt_or_ge x 128 with q | q
  · rw [sBy_n q, show (10 : Int32) = nI 10 from rfl, show (32 : Int32) = nI 32 from rfl, show (126 : Int32) = nI 126 from rfl]
    rcases (by omega : x = 10 ∨ (x ≠ 10 ∧ x < 32) ∨ (x ≠ 10 ∧ 126 < x) ∨ (x ≠ 10 ∧ 32 ≤ x ∧ x ≤ 126)) with c | c | c | c
    · rw [ieq_p (by omega), c]; rfl
    · rw [ieq_n (by omega), ilt_p (by omega), show (x == 10) = false from beq_false_of_ne c.1, decide_eq_false (by omega)]; rfl
    · rw [ieq_n (by omega), ilt_n (by omega), ilt_p (by omega), show (x == 10) = false from beq_false_of_ne c.1, decide_eq_false (by omega)]; rfl
    · rw [ieq_n (by omega), ilt_n (by omega), ilt_n (by omega), show (x == 10) = false from beq_false_of_ne c.1, decide_eq_true (by omega)]; rfl
  · have hn := sBy_neg q h
    have h10 : ¬ sBy x = (10 : Int32) := fun e => by rw [e] at hn; exact absurd hn (by decide)
    have h32 : sBy x < (32 : Int32) := by
      rw [Int32.lt_iff_toInt_lt] at hn ⊢
      have : (0 : Int32).toInt = 0 := rfl
      have : (32 : Int32).toInt = 32 := rfl
      omega
    rw [if_neg h10, if_pos h32, show (x == 10) = false from beq_false_of_ne (by omega), decide_eq_false (by omega)]
    rfl
theorem ieqs {δ : Type} {x k : Nat} {u v : δ} (hx : x < 1000) (hk : k < 1000) : (if nI x = nI k then u else v) = if x = k then u else v := by
  rcases Classical.em (x = k) with e | e
  · rw [if_pos e, if_pos (by rw [e])]
  · rw [if_neg e, if_neg (fun h => e ((nI_eq (by omega) (by omega)).mp h))]
theorem b1s (p : Prop) [Decidable p] (q : Bool) : (if p then some (1 : Int32) else some (b1 q)) = some (b1 (decide p || q)) := by
  by_cases h : p
  · rw [if_pos h, decide_eq_true h]; rfl
  · rw [if_neg h, decide_eq_false h]; rfl
theorem r_blank {n x : Nat} (h : x < 1000) : m_Model_isBlank n (nI x) = some (b1 (decide (x = 10) || (decide (x = 32) || (decide (x = 59) || false)))) := by
  unfold m_Model_isBlank
  rw [show (10 : Int32) = nI 10 from rfl, show (32 : Int32) = nI 32 from rfl, show (59 : Int32) = nI 59 from rfl, ieqs h (by decide), ieqs h (by decide), ieqs h (by decide), show (some 0 : Option Int32) = some (b1 false) from rfl, b1s, b1s, b1s]
theorem r_sgn {n x : Nat} (h : x < 1000) : m_Model_isSign n (nI x) = some (b1 (decide (x = 43) || (decide (x = 45) || (decide (x = 42) || (decide (x = 47) || (decide (x = 61) || (decide (x = 60) || (decide (x = 62) || false)))))))) := by
  unfold m_Model_isSign
  rw [show (43 : Int32) = nI 43 from rfl, show (45 : Int32) = nI 45 from rfl, show (42 : Int32) = nI 42 from rfl, show (47 : Int32) = nI 47 from rfl, show (61 : Int32) = nI 61 from rfl, show (60 : Int32) = nI 60 from rfl, show (62 : Int32) = nI 62 from rfl, ieqs h (by decide), ieqs h (by decide), ieqs h (by decide), ieqs h (by decide), ieqs h (by decide), ieqs h (by decide), ieqs h (by decide), show (some 0 : Option Int32) = some (b1 false) from rfl, b1s, b1s, b1s, b1s, b1s, b1s, b1s]
theorem aSgn_b (x : Nat) : aSgn x = (decide (x = 43) || (decide (x = 45) || (decide (x = 42) || (decide (x = 47) || (decide (x = 61) || (decide (x = 60) || (decide (x = 62) || false))))))) := by
  unfold aSgn
  simp only [Bool.or_false, Bool.or_assoc]
  rfl
theorem r_sgn2 {n x : Nat} (h : x < 1000) : m_Model_isSign n (nI x) = some (b1 (aSgn x)) := by rw [r_sgn h, aSgn_b]
def sgC (x : Nat) : Bool := aSgn x || (decide (x = 40) || (decide (x = 41) || false))
theorem r_single9 {n x : Nat} (h : x < 1000) : m_Model_isSingle n (nI x) = some (b1 (sgC x)) := by
  unfold m_Model_isSingle sgC
  rw [r_sgn2 h, ob0_s, show (40 : Int32) = nI 40 from rfl, show (41 : Int32) = nI 41 from rfl, ieqs h (by decide), ieqs h (by decide), show (some 0 : Option Int32) = some (b1 false) from rfl, b1s, b1s]
  cases aSgn x
  · rw [if_pos (show b1 false = (0 : Int32) from rfl)]; rfl
  · rw [if_neg (by decide)]; rfl
theorem aHalts_c (x : Nat) : aHalts x = true ↔ (x ≤ 32 ∨ 126 < x ∨ x = 59 ∨ x = 91 ∨ x = 93 ∨ sgC x = true) := by
  unfold aHalts aAlone sgC aSgn
  simp only [Bool.or_eq_true, decide_eq_true_eq, beq_iff_eq, Bool.or_false]
  omega
/-- where a token ends -/
theorem r_s205 {n : Nat} {rc : (Nat → Int32) → (Nat → Int64) → (Nat → Nat → Int32) → (Nat → Nat → Int64) → Int32 → Int32 → Int32 → Int32 → Option ((Nat → Int32) × (Nat → Int64) × (Nat → Nat → Int32) × (Nat → Nat → Int64) × Int32)} {i : Nat → Int32} {j : Nat → Int64} {a : Nat → Nat → Int32} {b : Nat → Nat → Int64} {v1 v3 v4 v5 : Int32} {tp : Nat → Nat} {N : Nat} (hN : N ≤ 4000) (h73 : ∀ k, k < N → a 73 k = sBy (tp k)) (h256 : ∀ k, tp k < 256) : ∀ (m k f : Nat), k + m = N → m < f → m_Model_scan_b205 n rc f i j a b v1 (nI N) v3 v4 v5 (nI k) 0 = m_Model_scan_b285 n rc i j a b v1 (nI N) v3 v4 v5 (nI (aTEl tp m k)) 0 := by
  intro m
  induction m with
  | zero =>
    intro k f hk hf
    obtain ⟨f, rfl⟩ : ∃ f', f = f' + 1 := ⟨f - 1, by omega⟩
    rw [m_Model_scan_b205, if_pos rfl, ile_p (by omega)]
    rfl
  | succ m ih =>
    intro k f hk hf
    obtain ⟨f, rfl⟩ : ∃ f', f = f' + 1 := ⟨f - 1, by omega⟩
    rw [m_Model_scan_b205, if_pos rfl, ile_n (by omega), ck_n (by omega), cl_n (by omega), h73 k (by omega), r_good (h256 k), ob0_s, aTEl]
    rcases Classical.em (gdC (tp k) = true) with g | g
    rotate_left
    · rw [Bool.not_eq_true] at g
      have hh : aHalts (tp k) = true := by
        rw [aHalts_c]
        unfold gdC at g
        rw [Bool.or_eq_false_iff, beq_eq_false_iff_ne] at g
        have := of_decide_eq_false g.2
        omega
      rw [g, if_pos (show b1 false = (0 : Int32) from rfl), if_pos hh]
    · have hlt : tp k ≤ 126 := by
        unfold gdC at g
        rw [Bool.or_eq_true, beq_iff_eq, decide_eq_true_eq] at g
        omega
      rw [g, if_neg (by decide), ck_n (by omega), sBy_n (by omega), r_blank (by omega), ob0_s, ck_n (by omega), ck_n (by omega), ck_n (by omega), r_single9 (by omega), ob0_s, ob1_s, show nI k + (1 : Int32) = nI (k + 1) from nI_add k 1, show (91 : Int32) = nI 91 from rfl, show (93 : Int32) = nI 93 from rfl, ieqs (by omega) (by decide), ieqs (by omega) (by decide)]
      have hc := aHalts_c (tp k)
      have g2 : tp k = 10 ∨ 32 ≤ tp k := by
        unfold gdC at g
        rw [Bool.or_eq_true, beq_iff_eq, decide_eq_true_eq] at g
        omega
      rcases Classical.em (aHalts (tp k) = true) with hh | hh
      · rw [if_pos hh]
        have hc2 := hc.mp hh
        rcases Classical.em (tp k = 10 ∨ tp k = 32 ∨ tp k = 59) with q | q
        · rw [if_neg]
          rcases q with q | q | q <;> (rw [q]; decide)
        · rw [if_pos (by rw [decide_eq_false (by omega), decide_eq_false (by omega), decide_eq_false (by omega)]; rfl)]
          rcases Classical.em (tp k = 91) with q1 | q1
          · rw [if_pos q1]
          rw [if_neg q1]
          rcases Classical.em (tp k = 93) with q2 | q2
          · rw [if_pos q2]
          rw [if_neg q2]
          have : sgC (tp k) = true := by rcases hc2 with h | h | h | h | h | h; omega; omega; omega; omega; omega; exact h
          rw [this, if_neg (by decide)]
      · rw [if_neg hh]
        have hn : ¬ (tp k ≤ 32 ∨ 126 < tp k ∨ tp k = 59 ∨ tp k = 91 ∨ tp k = 93 ∨ sgC (tp k) = true) := fun h => hh (hc.mpr h)
        have hs : sgC (tp k) = false := by
          cases hq : sgC (tp k) with
          | true => exact absurd (Or.inr (Or.inr (Or.inr (Or.inr (Or.inr hq))))) hn
          | false => rfl
        rw [if_pos (by rw [decide_eq_false (by omega), decide_eq_false (by omega), decide_eq_false (by omega)]; rfl), if_neg (by omega), if_neg (by omega), hs, if_pos (show b1 false = (0 : Int32) from rfl)]
        exact ih (k + 1) f (by omega) (by omega)
theorem r_digit {n x : Nat} (h : x < 256) : m_Model_isDigit n (sBy x) = some (b1 (aDigit x)) := by
  unfold m_Model_isDigit aDigit
  rcases Nat.lt_or_ge x 128 with q | q
  · rw [sBy_n q, show (48 : Int32) = nI 48 from rfl, show (57 : Int32) = nI 57 from rfl]
    rcases (by omega : x < 48 ∨ 57 < x ∨ (48 ≤ x ∧ x ≤ 57)) with c | c | c
    · rw [ilt_p (by omega), decide_eq_false (by omega)]; rfl
    · rw [ilt_n (by omega), ilt_p (by omega), decide_eq_false (by omega)]; rfl
    · rw [ilt_n (by omega), ilt_n (by omega), decide_eq_true c]; rfl
  · have hn := sBy_neg q h
    have h32 : sBy x < (48 : Int32) := by
      rw [Int32.lt_iff_toInt_lt] at hn ⊢
      have : (0 : Int32).toInt = 0 := rfl
      have : (48 : Int32).toInt = 48 := rfl
      omega
    rw [if_pos h32, decide_eq_false (by omega)]
    rfl
/-- whether a - stands alone -/
theorem r_alone {n : Nat} {i : Nat → Int32} {j : Nat → Int64} {a : Nat → Nat → Int32} {b : Nat → Nat → Int64} {tp : Nat → Nat} {N k : Nat} (hN : N ≤ 4000) (hk : k < N) (h73 : ∀ k, k < N → a 73 k = sBy (tp k)) (h256 : ∀ k, tp k < 256) (hp : k = 0 ∨ (tp (k - 1) ≠ 59 ∧ tp (k - 1) < 128)) : m_Model_isAlone n i j a b (nI k) (nI N) = some (b1 (!aDash tp N k)) := by
  unfold m_Model_isAlone aDash
  rw [show nI k + (1 : Int32) = nI (k + 1) from nI_add k 1]
  rcases Nat.lt_or_ge (k + 1) N with c | c
  rotate_left
  · rw [ile_p (by omega), decide_eq_false (by omega)]; rfl
  rw [ile_n (by omega), ck_n (by omega), cl_n (by omega), h73 _ c, r_digit (h256 _), ob0_s, decide_eq_true c]
  cases hd : aDigit (tp (k + 1)) with
  | false => rw [if_pos (show b1 false = (0 : Int32) from rfl)]; rfl
  | true =>
    rw [if_neg (by decide)]
    rcases Nat.eq_zero_or_pos k with rfl | kp
    · rw [if_pos (show nI 0 = (0 : Int32) from rfl)]; rfl
    · obtain ⟨hp1, hp2⟩ : tp (k - 1) ≠ 59 ∧ tp (k - 1) < 128 := by rcases hp with h | h; omega; exact h
      rw [if_neg (show ¬ nI k = (0 : Int32) from fun e => by have := (nI_eq (b := 0) (by omega) (by decide)).mp e; omega), show (1 : Int32) = nI 1 from rfl, sub_n (by omega), ck_n (by omega), cl_n (by omega), ob1_s, h73 _ (by omega), sBy_n hp2, r_blank (by omega), ob0_s, show (91 : Int32) = nI 91 from rfl, show (40 : Int32) = nI 40 from rfl, ieqs (by omega) (by decide), ieqs (by omega) (by decide), r_sgn2 (by omega), ob0_s]
      have hk0 : (k == 0) = false := beq_false_of_ne (by omega)
      rw [hk0, Bool.false_or, Bool.true_and, Bool.true_and]
      unfold aAhead
      generalize tp (k - 1) = x at hp1 hp2 ⊢
      rw [decide_eq_false hp1]
      rcases (by omega : x = 10 ∨ x = 32 ∨ (x ≠ 10 ∧ x ≠ 32)) with q | q | ⟨q, q'⟩
      · rw [q]; rfl
      · rw [q]; rfl
      · rw [decide_eq_false q, decide_eq_false q', if_pos (by rfl), show (x == 10) = false from beq_false_of_ne q, show (x == 32) = false from beq_false_of_ne q']
        rcases Classical.em (x = 91) with e | e
        · rw [if_pos e, e]; rfl
        rw [if_neg e, show (x == 91) = false from beq_false_of_ne e]
        rcases Classical.em (x = 40) with e2 | e2
        · rw [if_pos e2, e2]; rfl
        rw [if_neg e2, show (x == 40) = false from beq_false_of_ne e2]
        cases aSgn x
        · rw [if_pos (show b1 false = (0 : Int32) from rfl)]; rfl
        · rw [if_neg (by decide)]; rfl
theorem aPar_one {c : Nat} (h : aDigit c = false) : (aPar [c]).1 = 0 := by
  unfold aDigit at h
  have h := of_decide_eq_false h
  unfold aPar
  rcases Classical.em (c = 45) with e | e
  · subst e; decide
  · have h1 : ¬ ([c].head? = some 45) := by
      rw [List.head?_cons]
      intro h9
      exact e (Option.some.inj h9)
    simp only [h1, if_false]
    have h2 : aVal [c] 0 = none := by
      rw [aVal, if_neg (by omega)]
    simp [h2]

