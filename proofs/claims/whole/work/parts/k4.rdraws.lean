/-! a line drawn by the reference -/
theorem r_d23n {n : Nat} {i : Nat → Int32} {j : Nat → Int64} {a : Nat → Nat → Int32} {b : Nat → Nat → Int64} {v1 v2 v3 v4 v5 v6 v7 v8 v9 v10 v11 : Int32} : m_Model_draws_b23 n i j a b v1 v2 v3 v4 v5 v6 v7 v8 v9 v10 v11 0 = m_Model_draws_b129 n i j a b v9 v10 v11 v5 v6 v7 v8 v1 v2 v3 v4 := by
  unfold m_Model_draws_b23 m_Model_draws_b36 m_Model_draws_b49 m_Model_draws_b62 m_Model_draws_b76 m_Model_draws_b89 m_Model_draws_b102 m_Model_draws_b115
  simp only [if_true]
theorem r_d23p {n : Nat} {i : Nat → Int32} {j : Nat → Int64} {a : Nat → Nat → Int32} {b : Nat → Nat → Int64} {v1 v2 v3 v4 v5 v6 v7 v8 v9 v10 v11 : Int32} : m_Model_draws_b23 n i j a b v1 v2 v3 v4 v5 v6 v7 v8 v9 v10 v11 1 = m_Model_draws_b129 n i j a b v9 v10 v11 v1 v2 v3 v4 v5 v6 v7 v8 := by
  unfold m_Model_draws_b23 m_Model_draws_b36 m_Model_draws_b49 m_Model_draws_b62 m_Model_draws_b76 m_Model_draws_b89 m_Model_draws_b102 m_Model_draws_b115
  simp only [show ¬ ((1 : Int32) = 0) by decide, if_false]
def dLine (s low high : Nat → Int) (ld fo : Nat) (sl : Int) (byc : Bool) (col : Int32) (d : Nat → Int32) : Nat → Int32 :=
  aDots col (aAcross s low high ld fo sl) byc (min (flH (high ld + 1) (high (ld + 1))) 31 + 1 - max (flH (low ld + 1) (low (ld + 1))) (-32)).toNat (max (flH (low ld + 1) (low (ld + 1))) (-32)) d
theorem r_d129 {n : Nat} {i : Nat → Int32} {j : Nat → Int64} {a : Nat → Nat → Int32} {b : Nat → Nat → Int64} {low high : Nat → Int} {ld fo : Nat} {sl : Int} {col : Int32} {byc : Bool} (hn : 100 ≤ n) (hl : ∀ k, k < 4 → -1000000 ≤ low k ∧ low k ≤ 1000000) (hh : ∀ k, k < 4 → -1000000 ≤ high k ∧ high k ≤ 1000000) (hld : ld < 3) (hfo : fo < 3) (hsl : sl = 0 ∨ sl = 1 ∨ sl = -1) : m_Model_draws_b129 n i j a b (Int32.ofInt sl) col (b1 (!byc)) (Int32.ofInt (low ld)) (Int32.ofInt (low (ld + 1))) (Int32.ofInt (low fo)) (Int32.ofInt (low (fo + 1))) (Int32.ofInt (high ld)) (Int32.ofInt (high (ld + 1))) (Int32.ofInt (high fo)) (Int32.ofInt (high (fo + 1))) = some (i, j, updA a 44 (dLine low low high ld fo sl byc col (a 44)), b, 0) := by
  have l0 := hl ld (by omega)
  have l1 := hl (ld + 1) (by omega)
  have g0 := hh ld (by omega)
  have g1 := hh (ld + 1) (by omega)
  have fl : ∀ p q : Int, -1000000 ≤ p ∧ p ≤ 1000000 → -1000000 ≤ q ∧ q ≤ 1000000 → m_Model_floor n ((Int32.ofInt p + 1).toInt64) (Int32.ofInt q).toInt64 (2 : Int64) = some (Int32.ofInt (flH (p + 1) q)) := by
    intro p q hp hq
    rw [show Int32.ofInt p + (1 : Int32) = Int32.ofInt (p + 1) by rw [Int32.ofInt_add]; rfl, i32_64 (x := p + 1) (by omega) (by omega), i32_64 (x := q) (by omega) (by omega), show (2 : Int64) = Int64.ofInt 2 from rfl, r_floor hn (by omega) (by omega) (Or.inl rfl)]
    rfl
  have hz1 := flH_b (p := low ld + 1) (q := low (ld + 1)) (M := 1000001) (by omega) (by omega) (by decide)
  have hz2 := flH_b (p := high ld + 1) (q := high (ld + 1)) (M := 1000001) (by omega) (by omega) (by decide)
  unfold m_Model_draws_b129
  rw [fl _ _ l0 l1, ob0_s, show (-32 : Int32) = Int32.ofInt (-32) by decide, r_max (by omega) (by omega), ob0_s, fl _ _ g0 g1, ob0_s, show (31 : Int32) = Int32.ofInt 31 from rfl, r_min (by omega) (by omega), ob0_s, Int.max_comm, Int.min_comm]
  exact r_d177 hn hl hh hld hfo hsl (by omega) (by omega) _ _ _ _ (by omega) (by omega) (by omega) rfl
theorem dLine_eq {s low high s' low' high' : Nat → Int} {ld fo : Nat} {sl : Int} {byc : Bool} {col : Int32} {d : Nat → Int32} (hl : low ld = low' ld ∧ low (ld + 1) = low' (ld + 1) ∧ low fo = low' fo ∧ low (fo + 1) = low' (fo + 1)) (hh : high ld = high' ld ∧ high (ld + 1) = high' (ld + 1) ∧ high fo = high' fo ∧ high (fo + 1) = high' (fo + 1)) (h1 : s fo - sl * s (ld + 1) = s' fo - sl * s' (ld + 1)) (h2 : 3 * s (fo + 1) - sl * s ld = 3 * s' (fo + 1) - sl * s' ld) : dLine s low high ld fo sl byc col d = dLine s' low' high' ld fo sl byc col d := by
  have e : aAcross s low high ld fo sl = aAcross s' low' high' ld fo sl := by
    funext v
    have h3 : 3 * s (fo + 1) + sl * (2 * v - s ld) = 3 * s' (fo + 1) + sl * (2 * v - s' ld) := by rw [Int.mul_sub, Int.mul_sub]; omega
    unfold aAcross
    rw [hl.1, hl.2.1, hl.2.2.1, hl.2.2.2, hh.1, hh.2.1, hh.2.2.1, hh.2.2.2, h1, h3]
  unfold dLine
  rw [e, hl.1, hl.2.1, hh.1, hh.2.1]
theorem aDraw_line {s e : Nat → Int} {dir ld : Nat} {col : Int32} {d : Nat → Int32} {byc : Bool} (hy : byc = decide (2 ≤ dir ∧ dir ≤ 4)) (hld : ld = if byc then 0 else 2) : aDraw s e dir col d = if s ld + s (ld + 1) < e ld + e (ld + 1) then dLine s s e ld (2 - ld) (aSlope dir) byc col d else dLine s e s ld (2 - ld) (aSlope dir) byc col d := by
  unfold aDraw dLine
  dsimp only
  rw [← hy, ← hld]
  rcases Classical.em (s ld + s (ld + 1) < e ld + e (ld + 1)) with h | h
  · rw [if_pos h, decide_eq_true h]; rfl
  · rw [if_neg h, decide_eq_false h]; rfl
theorem aSg_2 (t : Int) : aSg (2 * t) 0 < 0 ↔ t < 0 := by
  unfold aSg
  rw [if_pos rfl]
  rcases (by omega : t < 0 ∨ t = 0 ∨ 0 < t) with c | c | c
  · rw [if_pos (by omega)]; omega
  · rw [if_neg (by omega), if_pos (by omega)]; omega
  · rw [if_neg (by omega), if_neg (by omega)]; omega
theorem aSg_0 (t : Int) : aSg 0 t < 0 ↔ t < 0 := by
  unfold aSg
  rcases (by omega : t < 0 ∨ t = 0 ∨ 0 < t) with c | c | c
  · have h1 := fl3_ne (q := t) (by omega)
    have h2 := fl3_nn (-t).toNat
    rw [show (((-t).toNat : Nat) : Int) = -t by omega] at h2
    rw [if_neg (by omega), if_pos (by omega)]; omega
  · rw [if_pos c, if_neg (by decide), if_pos rfl]; omega
  · have h2 := fl3_nn t.toNat
    rw [show ((t.toNat : Nat) : Int) = t by omega] at h2
    rw [if_neg (by omega), if_neg (by omega)]; omega
theorem aSg_bd (x q : Int) : -1 ≤ aSg x q ∧ aSg x q ≤ 1 := by
  unfold aSg
  split
  · split
    · decide
    · split <;> decide
  · split <;> decide
theorem r_draws {n : Nat} {i : Nat → Int32} {j : Nat → Int64} {a : Nat → Nat → Int32} {b : Nat → Nat → Int64} {s e : Nat → Int} {dir ld fo : Nat} {tm sl : Int} {col : Int32} {byc : Bool} (hn : 100 ≤ n) (hdir : dir < 6) (hs : ∀ k, k < 4 → -1000000 ≤ s k ∧ s k ≤ 1000000) (hb : ∀ k, k < 4 → -1000000 ≤ e k ∧ e k ≤ 1000000) (he : ∀ k, k < 4 → e k = s k + tm * aSteps dir k) (hy : byc = decide (2 ≤ dir ∧ dir ≤ 4)) (hld : ld = if byc then 0 else 2) (hfo : fo = 2 - ld) (hsl : sl = aSlope dir) : m_Model_draws n i j a b (Int32.ofInt (s ld)) (Int32.ofInt (s (ld + 1))) (Int32.ofInt (s fo)) (Int32.ofInt (s (fo + 1))) (Int32.ofInt (e ld)) (Int32.ofInt (e (ld + 1))) (Int32.ofInt (e fo)) (Int32.ofInt (e (fo + 1))) (Int32.ofInt sl) col (b1 (!byc)) = some (i, j, updA a 44 (aDraw s e dir col (a 44)), b, 0) := by
  have h3 : sl = 0 ∨ sl = 1 ∨ sl = -1 := by rw [hsl]; exact aSlope_3 dir
  have hl2 : ld < 3 := by rw [hld]; split <;> decide
  have l0 := hs ld (by omega)
  have l1 := hs (ld + 1) (by omega)
  have g0 := hb ld (by omega)
  have g1 := hb (ld + 1) (by omega)
  have e0 := he 0 (by decide)
  have e1 := he 1 (by decide)
  have e2 := he 2 (by decide)
  have e3 := he 3 (by decide)
  have hsb := aSg_bd (e ld - s ld) (e (ld + 1) - s (ld + 1))
  have hsg : m_Model_sign n ((Int32.ofInt (e ld)).toInt64 - (Int32.ofInt (s ld)).toInt64) ((Int32.ofInt (e (ld + 1))).toInt64 - (Int32.ofInt (s (ld + 1))).toInt64) = some (Int32.ofInt (aSg (e ld - s ld) (e (ld + 1) - s (ld + 1)))) := by
    rw [i32_64 (x := e ld) (by omega) (by omega), i32_64 (x := s ld) (by omega) (by omega), i32_64 (x := e (ld + 1)) (by omega) (by omega), i32_64 (x := s (ld + 1)) (by omega) (by omega), ← Int64.ofInt_sub, ← Int64.ofInt_sub, r_sign (by omega) (by omega)]
  unfold m_Model_draws
  rw [hsg, ob0_s, show (0 : Int32) = Int32.ofInt 0 from rfl, aDraw_line hy hld]
  rcases Classical.em (aSg (e ld - s ld) (e (ld + 1) - s (ld + 1)) < 0) with c | c
  · rw [if_pos ((I_lt (by omega) (by omega)).mpr c), show (Int32.ofInt 0) = (0 : Int32) from rfl, r_d23n, r_d129 hn hb hs hl2 (by omega) h3, ← hfo, ← hsl]
    refine congrArg (fun x => some (i, j, updA a 44 x, b, (0 : Int32))) ?_
    rcases (by omega : dir = 0 ∨ dir = 1 ∨ dir = 2 ∨ dir = 3 ∨ dir = 4 ∨ dir = 5) with rfl | rfl | rfl | rfl | rfl | rfl
    · subst hy
      subst hsl
      have hld2 : ld = 2 := hld
      have hfo2 : fo = 0 := by rw [hfo, hld2]
      clear hld hfo
      subst hld2
      subst hfo2
      change _ = s 0 + tm * 0 at e0
      change _ = s 1 + tm * 0 at e1
      change _ = s 2 + tm * 2 at e2
      change _ = s 3 + tm * 0 at e3
      try dsimp only [Nat.zero_add, Nat.reduceAdd] at c l0 l1 g0 g1
      rw [show e 2 - s 2 = 2 * tm by omega, show e 3 - s 3 = 0 by omega, aSg_2] at c
      rw [if_neg (show ¬ (s 2 + s 3 < e 2 + e 3) by omega)]
      exact dLine_eq ⟨rfl, rfl, rfl, rfl⟩ ⟨rfl, rfl, rfl, rfl⟩ (by show e 0 - (0) * e 3 = s 0 - (0) * s 3; omega) (by show 3 * e 1 - (0) * e 2 = 3 * s 1 - (0) * s 2; omega)
    · subst hy
      subst hsl
      have hld2 : ld = 2 := hld
      have hfo2 : fo = 0 := by rw [hfo, hld2]
      clear hld hfo
      subst hld2
      subst hfo2
      change _ = s 0 + tm * 1 at e0
      change _ = s 1 + tm * 0 at e1
      change _ = s 2 + tm * 0 at e2
      change _ = s 3 + tm * 1 at e3
      try dsimp only [Nat.zero_add, Nat.reduceAdd] at c l0 l1 g0 g1
      rw [show e 2 - s 2 = 0 by omega, show e 3 - s 3 = tm by omega, aSg_0] at c
      rw [if_neg (show ¬ (s 2 + s 3 < e 2 + e 3) by omega)]
      exact dLine_eq ⟨rfl, rfl, rfl, rfl⟩ ⟨rfl, rfl, rfl, rfl⟩ (by show e 0 - (1) * e 3 = s 0 - (1) * s 3; omega) (by show 3 * e 1 - (1) * e 2 = 3 * s 1 - (1) * s 2; omega)
    · subst hy
      subst hsl
      have hld2 : ld = 0 := hld
      have hfo2 : fo = 2 := by rw [hfo, hld2]
      clear hld hfo
      subst hld2
      subst hfo2
      change _ = s 0 + tm * 0 at e0
      change _ = s 1 + tm * 1 at e1
      change _ = s 2 + tm * 1 at e2
      change _ = s 3 + tm * 0 at e3
      try dsimp only [Nat.zero_add, Nat.reduceAdd] at c l0 l1 g0 g1
      rw [show e 0 - s 0 = 0 by omega, show e 1 - s 1 = tm by omega, aSg_0] at c
      rw [if_neg (show ¬ (s 0 + s 1 < e 0 + e 1) by omega)]
      exact dLine_eq ⟨rfl, rfl, rfl, rfl⟩ ⟨rfl, rfl, rfl, rfl⟩ (by show e 2 - (1) * e 1 = s 2 - (1) * s 1; omega) (by show 3 * e 3 - (1) * e 0 = 3 * s 3 - (1) * s 0; omega)
    · subst hy
      subst hsl
      have hld2 : ld = 0 := hld
      have hfo2 : fo = 2 := by rw [hfo, hld2]
      clear hld hfo
      subst hld2
      subst hfo2
      change _ = s 0 + tm * 2 at e0
      change _ = s 1 + tm * 0 at e1
      change _ = s 2 + tm * 0 at e2
      change _ = s 3 + tm * 0 at e3
      try dsimp only [Nat.zero_add, Nat.reduceAdd] at c l0 l1 g0 g1
      rw [show e 0 - s 0 = 2 * tm by omega, show e 1 - s 1 = 0 by omega, aSg_2] at c
      rw [if_neg (show ¬ (s 0 + s 1 < e 0 + e 1) by omega)]
      exact dLine_eq ⟨rfl, rfl, rfl, rfl⟩ ⟨rfl, rfl, rfl, rfl⟩ (by show e 2 - (0) * e 1 = s 2 - (0) * s 1; omega) (by show 3 * e 3 - (0) * e 0 = 3 * s 3 - (0) * s 0; omega)
    · subst hy
      subst hsl
      have hld2 : ld = 0 := hld
      have hfo2 : fo = 2 := by rw [hfo, hld2]
      clear hld hfo
      subst hld2
      subst hfo2
      change _ = s 0 + tm * 0 at e0
      change _ = s 1 + tm * 1 at e1
      change _ = s 2 + tm * -1 at e2
      change _ = s 3 + tm * 0 at e3
      try dsimp only [Nat.zero_add, Nat.reduceAdd] at c l0 l1 g0 g1
      rw [show e 0 - s 0 = 0 by omega, show e 1 - s 1 = tm by omega, aSg_0] at c
      rw [if_neg (show ¬ (s 0 + s 1 < e 0 + e 1) by omega)]
      exact dLine_eq ⟨rfl, rfl, rfl, rfl⟩ ⟨rfl, rfl, rfl, rfl⟩ (by show e 2 - (-1) * e 1 = s 2 - (-1) * s 1; omega) (by show 3 * e 3 - (-1) * e 0 = 3 * s 3 - (-1) * s 0; omega)
    · subst hy
      subst hsl
      have hld2 : ld = 2 := hld
      have hfo2 : fo = 0 := by rw [hfo, hld2]
      clear hld hfo
      subst hld2
      subst hfo2
      change _ = s 0 + tm * 1 at e0
      change _ = s 1 + tm * 0 at e1
      change _ = s 2 + tm * 0 at e2
      change _ = s 3 + tm * -1 at e3
      try dsimp only [Nat.zero_add, Nat.reduceAdd] at c l0 l1 g0 g1
      rw [show e 2 - s 2 = 0 by omega, show e 3 - s 3 = -tm by omega, aSg_0] at c
      rw [if_neg (show ¬ (s 2 + s 3 < e 2 + e 3) by omega)]
      exact dLine_eq ⟨rfl, rfl, rfl, rfl⟩ ⟨rfl, rfl, rfl, rfl⟩ (by show e 0 - (-1) * e 3 = s 0 - (-1) * s 3; omega) (by show 3 * e 1 - (-1) * e 2 = 3 * s 1 - (-1) * s 2; omega)
  · rw [if_neg (fun h => c ((I_lt (by omega) (by omega)).mp h)), r_d23p, r_d129 hn hs hb hl2 (by omega) h3, ← hfo, ← hsl]
    refine congrArg (fun x => some (i, j, updA a 44 x, b, (0 : Int32))) ?_
    rcases (by omega : dir = 0 ∨ dir = 1 ∨ dir = 2 ∨ dir = 3 ∨ dir = 4 ∨ dir = 5) with rfl | rfl | rfl | rfl | rfl | rfl
    · subst hy
      subst hsl
      have hld2 : ld = 2 := hld
      have hfo2 : fo = 0 := by rw [hfo, hld2]
      clear hld hfo
      subst hld2
      subst hfo2
      change _ = s 0 + tm * 0 at e0
      change _ = s 1 + tm * 0 at e1
      change _ = s 2 + tm * 2 at e2
      change _ = s 3 + tm * 0 at e3
      try dsimp only [Nat.zero_add, Nat.reduceAdd] at c l0 l1 g0 g1
      rw [show e 2 - s 2 = 2 * tm by omega, show e 3 - s 3 = 0 by omega, aSg_2] at c
      rcases Classical.em (s 2 + s 3 < e 2 + e 3) with c9 | c9
      · rw [if_pos c9]
      · rw [if_neg c9]
        exact dLine_eq ⟨(show s 2 = e 2 by omega), (show s 3 = e 3 by omega), (show s 0 = e 0 by omega), (show s 1 = e 1 by omega)⟩ ⟨(show e 2 = s 2 by omega), (show e 3 = s 3 by omega), (show e 0 = s 0 by omega), (show e 1 = s 1 by omega)⟩ rfl rfl
    · subst hy
      subst hsl
      have hld2 : ld = 2 := hld
      have hfo2 : fo = 0 := by rw [hfo, hld2]
      clear hld hfo
      subst hld2
      subst hfo2
      change _ = s 0 + tm * 1 at e0
      change _ = s 1 + tm * 0 at e1
      change _ = s 2 + tm * 0 at e2
      change _ = s 3 + tm * 1 at e3
      try dsimp only [Nat.zero_add, Nat.reduceAdd] at c l0 l1 g0 g1
      rw [show e 2 - s 2 = 0 by omega, show e 3 - s 3 = tm by omega, aSg_0] at c
      rcases Classical.em (s 2 + s 3 < e 2 + e 3) with c9 | c9
      · rw [if_pos c9]
      · rw [if_neg c9]
        exact dLine_eq ⟨(show s 2 = e 2 by omega), (show s 3 = e 3 by omega), (show s 0 = e 0 by omega), (show s 1 = e 1 by omega)⟩ ⟨(show e 2 = s 2 by omega), (show e 3 = s 3 by omega), (show e 0 = s 0 by omega), (show e 1 = s 1 by omega)⟩ rfl rfl
    · subst hy
      subst hsl
      have hld2 : ld = 0 := hld
      have hfo2 : fo = 2 := by rw [hfo, hld2]
      clear hld hfo
      subst hld2
      subst hfo2
      change _ = s 0 + tm * 0 at e0
      change _ = s 1 + tm * 1 at e1
      change _ = s 2 + tm * 1 at e2
      change _ = s 3 + tm * 0 at e3
      try dsimp only [Nat.zero_add, Nat.reduceAdd] at c l0 l1 g0 g1
      rw [show e 0 - s 0 = 0 by omega, show e 1 - s 1 = tm by omega, aSg_0] at c
      rcases Classical.em (s 0 + s 1 < e 0 + e 1) with c9 | c9
      · rw [if_pos c9]
      · rw [if_neg c9]
        exact dLine_eq ⟨(show s 0 = e 0 by omega), (show s 1 = e 1 by omega), (show s 2 = e 2 by omega), (show s 3 = e 3 by omega)⟩ ⟨(show e 0 = s 0 by omega), (show e 1 = s 1 by omega), (show e 2 = s 2 by omega), (show e 3 = s 3 by omega)⟩ rfl rfl
    · subst hy
      subst hsl
      have hld2 : ld = 0 := hld
      have hfo2 : fo = 2 := by rw [hfo, hld2]
      clear hld hfo
      subst hld2
      subst hfo2
      change _ = s 0 + tm * 2 at e0
      change _ = s 1 + tm * 0 at e1
      change _ = s 2 + tm * 0 at e2
      change _ = s 3 + tm * 0 at e3
      try dsimp only [Nat.zero_add, Nat.reduceAdd] at c l0 l1 g0 g1
      rw [show e 0 - s 0 = 2 * tm by omega, show e 1 - s 1 = 0 by omega, aSg_2] at c
      rcases Classical.em (s 0 + s 1 < e 0 + e 1) with c9 | c9
      · rw [if_pos c9]
      · rw [if_neg c9]
        exact dLine_eq ⟨(show s 0 = e 0 by omega), (show s 1 = e 1 by omega), (show s 2 = e 2 by omega), (show s 3 = e 3 by omega)⟩ ⟨(show e 0 = s 0 by omega), (show e 1 = s 1 by omega), (show e 2 = s 2 by omega), (show e 3 = s 3 by omega)⟩ rfl rfl
    · subst hy
      subst hsl
      have hld2 : ld = 0 := hld
      have hfo2 : fo = 2 := by rw [hfo, hld2]
      clear hld hfo
      subst hld2
      subst hfo2
      change _ = s 0 + tm * 0 at e0
      change _ = s 1 + tm * 1 at e1
      change _ = s 2 + tm * -1 at e2
      change _ = s 3 + tm * 0 at e3
      try dsimp only [Nat.zero_add, Nat.reduceAdd] at c l0 l1 g0 g1
      rw [show e 0 - s 0 = 0 by omega, show e 1 - s 1 = tm by omega, aSg_0] at c
      rcases Classical.em (s 0 + s 1 < e 0 + e 1) with c9 | c9
      · rw [if_pos c9]
      · rw [if_neg c9]
        exact dLine_eq ⟨(show s 0 = e 0 by omega), (show s 1 = e 1 by omega), (show s 2 = e 2 by omega), (show s 3 = e 3 by omega)⟩ ⟨(show e 0 = s 0 by omega), (show e 1 = s 1 by omega), (show e 2 = s 2 by omega), (show e 3 = s 3 by omega)⟩ rfl rfl
    · subst hy
      subst hsl
      have hld2 : ld = 2 := hld
      have hfo2 : fo = 0 := by rw [hfo, hld2]
      clear hld hfo
      subst hld2
      subst hfo2
      change _ = s 0 + tm * 1 at e0
      change _ = s 1 + tm * 0 at e1
      change _ = s 2 + tm * 0 at e2
      change _ = s 3 + tm * -1 at e3
      try dsimp only [Nat.zero_add, Nat.reduceAdd] at c l0 l1 g0 g1
      rw [show e 2 - s 2 = 0 by omega, show e 3 - s 3 = -tm by omega, aSg_0] at c
      rcases Classical.em (s 2 + s 3 < e 2 + e 3) with c9 | c9
      · rw [if_pos c9]
      · rw [if_neg c9]
        exact dLine_eq ⟨(show s 2 = e 2 by omega), (show s 3 = e 3 by omega), (show s 0 = e 0 by omega), (show s 1 = e 1 by omega)⟩ ⟨(show e 2 = s 2 by omega), (show e 3 = s 3 by omega), (show e 0 = s 0 by omega), (show e 1 = s 1 by omega)⟩ rfl rfl

