/-! words that look at values, in the reference -/
def vRes (code : Nat) (v u : Tr) : Except Nat Tr :=
  if code = 33 then .ok (aTruth (isL v))
  else if code = 34 then .ok (aTruth (isW v))
  else if code = 35 then .ok (aTruth (isN v))
  else if code = 36 then .ok (tN (if isL v then ((tMem v).length : Int) else 1))
  else if code = 37 then .ok (aTruth (tMem v).isEmpty)
  else if code = 38 then aItem 1 v
  else if code = 39 then aItem (tMem v).length v
  else aItem (tNum v) u
theorem rAns_v {i : Nat → Int32} {j : Nat → Int64} {a : Nat → Nat → Int32} {b : Nat → Nat → Int64} {B : RB4} {t : Tr} {v : Int64} (h : rV a b B t none v) : rAns i j a b B (.ok t) (some (i, j, a, b, v)) := Or.inr ⟨t, v, rfl, rfl, h⟩
theorem rAns_3 {i : Nat → Int32} {j : Nat → Int64} {a : Nat → Nat → Int32} {b : Nat → Nat → Int64} {n : Nat} {B : RB4} : rAns i j a b B (.error 3) (om (m_Model_fails n i j a b (3 : Int32)) (fun i_2 j_3 a_4 b_5 r_6 => some (i_2, j_3, a_4, b_5, r_6))) := Or.inl ⟨3, rfl, rfl⟩
theorem r_len5 {a : Nat → Nat → Int32} {b : Nat → Nat → Int64} {B : RB4} {ms : List Tr} {w : Int64} (h : rV a b B (tL ms) none w) : ms.length ≤ 90000 := by
  obtain ⟨l, p, _, h3, _⟩ := rV_tL.mp h
  have := h3.2.2.2.2.2.2.1
  have := h3.2.2.1
  omega
theorem r_vflat {n : Nat} {i : Nat → Int32} {j : Nat → Int64} {a : Nat → Nat → Int32} {b : Nat → Nat → Int64} {B : RB4} {code : Nat} {t u : Tr} {x y : Int64} (hT : rTr j a b B) (ht : rV a b B t none x) (hu : rV a b B u none y)
    (hc : (33 ≤ code ∧ code ≤ 36) ∨ ((37 ≤ code ∧ code ≤ 39) ∧ isL t = true) ∨ (code = 42 ∧ isN t = true ∧ isL u = true)) : rAns i j a b B (vRes code t u) (m_Model_values n i j a b (nI (code - 1)) x y) := by
  obtain ⟨k1, k2, k3⟩ := r_kinds n ht
  unfold m_Model_values
  rw [ob1_s]
  rcases hc with ⟨c1, c2⟩ | ⟨⟨c1, c2⟩, hl⟩ | ⟨rfl, hnt, hl⟩
  · have hcc : code = 33 ∨ code = 34 ∨ code = 35 ∨ code = 36 := by omega
    rcases hcc with rfl | rfl | rfl | rfl
    · rw [if_pos (by decide), k3, ob0_s]
      exact r_truth2 hT _
    · rw [if_neg (by decide), if_pos (by decide), k2, ob0_s]
      exact r_truth2 hT _
    · rw [if_neg (by decide), if_neg (by decide), if_pos (by decide), k1, ob0_s]
      exact r_truth2 hT _
    · rw [if_neg (by decide), if_neg (by decide), if_neg (by decide), if_pos (by decide), k3, ob0_s]
      show rAns i j a b B (.ok (tN (if isL t then ((tMem t).length : Int) else 1))) _
      cases hl : isL t with
      | false =>
        rw [b1_f, if_pos (show nI 0 = (0 : Int32) from rfl), show m_Model_number n (1 : Int32) = some (vN 1) from r_number (z := 1) (by decide) (by decide), ob0_s]
        exact rAns_v (t := tN 1) (rV_tN.mpr ⟨by decide, by decide, rfl⟩)
      | true =>
        have t1 := r_isL_eq ht hl
        rw [t1] at ht
        have h9 := r_len5 ht
        rw [b1_t, if_neg (show ¬ nI 1 = (0 : Int32) by decide), r_size ht, ob0_s, nI_ofInt, r_number (by omega) (by omega), ob0_s]
        exact rAns_v (rV_tN.mpr ⟨by omega, by omega, rfl⟩)
  · have t1 := r_isL_eq ht hl
    have htm := ht
    rw [t1] at htm
    have h9 := r_len5 htm
    have hcc : code = 37 ∨ code = 38 ∨ code = 39 := by omega
    rcases hcc with rfl | rfl | rfl
    · rw [if_neg (by decide), if_neg (by decide), if_neg (by decide), if_neg (by decide), if_pos (by decide), r_size htm, ob0_s]
      show rAns i j a b B (.ok (aTruth (tMem t).isEmpty)) _
      rcases Nat.eq_zero_or_pos (tMem t).length with c | c
      · rw [if_pos (show nI (tMem t).length = (0 : Int32) by rw [c]; rfl), show (tMem t).isEmpty = true by rw [List.isEmpty_iff]; exact List.length_eq_zero_iff.mp c]
        exact r_truth2 hT true
      · rw [if_neg (nI_ne0 c (by omega)), show (tMem t).isEmpty = false by rw [List.isEmpty_eq_false_iff]; exact List.length_pos_iff.mp c]
        exact r_truth2 hT false
    · rw [if_neg (by decide), if_neg (by decide), if_neg (by decide), if_neg (by decide), if_neg (by decide), if_pos (by decide), r_size htm, ob0_s]
      show rAns i j a b B (aItem 1 t) _
      unfold aItem
      rw [if_pos (by decide)]
      rcases Nat.eq_zero_or_pos (tMem t).length with c | c
      · rw [if_pos (show nI (tMem t).length = (0 : Int32) by rw [c]; rfl), show (tMem t)[(1 : Int).toNat - 1]? = none from List.getElem?_eq_none (by rw [c]; exact Nat.zero_le _)]
        exact rAns_3
      · obtain ⟨z, p1, p2⟩ := r_member (n := n) (i := i) (j := j) htm c
        rw [if_neg (nI_ne0 c (by omega)), show (tMem t)[(1 : Int).toNat - 1]? = some ((tMem t)[0]'c) from List.getElem?_eq_getElem c, show (0 : Int32) = nI 0 from rfl, p1, ob0_s]
        exact rAns_v p2
    · rw [if_neg (by decide), if_neg (by decide), if_neg (by decide), if_neg (by decide), if_neg (by decide), if_neg (by decide), if_pos (by decide), r_size htm, ob0_s]
      show rAns i j a b B (aItem (tMem t).length t) _
      unfold aItem
      rcases Nat.eq_zero_or_pos (tMem t).length with c | c
      · rw [if_pos (show nI (tMem t).length = (0 : Int32) by rw [c]; rfl), if_neg (by omega)]
        exact rAns_3
      · have hk : (tMem t).length - 1 < (tMem t).length := by omega
        obtain ⟨z, p1, p2⟩ := r_member (n := n) (i := i) (j := j) htm hk
        rw [if_neg (nI_ne0 c (by omega)), if_pos (by omega), show (tMem t)[((tMem t).length : Int).toNat - 1]? = some ((tMem t)[(tMem t).length - 1]'hk) from by rw [Int.toNat_natCast]; exact List.getElem?_eq_getElem hk, ob0_s, show (1 : Int32) = nI 1 from rfl, sub_n (by omega), p1, ob0_s]
        exact rAns_v p2
  · have t1 := r_isL_eq hu hl
    have htm := hu
    rw [t1] at htm
    have h9 := r_len5 htm
    obtain ⟨k, rfl, b1', b2', rfl⟩ : ∃ k, t = tN k ∧ -1000000000 ≤ k ∧ k ≤ 1000000000 ∧ x = vN k := by
      rcases rV_cases ht with h | ⟨l, w, rfl, _⟩ | ⟨ms, l, p, rfl, _⟩
      · exact h
      · rw [isN_tW] at hnt; cases hnt
      · rw [isN_tL] at hnt; cases hnt
    rw [if_neg (by decide), if_neg (by decide), if_neg (by decide), if_neg (by decide), if_neg (by decide), if_neg (by decide), if_neg (by decide), if_neg (by decide), if_neg (by decide), if_pos (by decide), r_whatN b1' b2', ob0_s]
    show rAns i j a b B (aItem k u) _
    unfold aItem
    have e1 : Int32.ofInt k < (1 : Int32) ↔ k < 1 := by
      have := i32_le (x := 1) (y := k) (by decide) ⟨b1', b2'⟩
      rw [show (1 : Int32) = Int32.ofInt 1 from rfl, ← Int32.not_le, this]
      omega
    have f3 : m_Model_values_b226 n i j a b = om (m_Model_fails n i j a b (3 : Int32)) (fun i_2 j_3 a_4 b_5 r_6 => some (i_2, j_3, a_4, b_5, r_6)) := rfl
    rcases Classical.em (k < 1) with c | c
    · rw [if_pos (e1.mpr c), if_neg (show ¬ 1 ≤ k by omega), f3]
      exact rAns_3
    · obtain ⟨m, rfl⟩ : ∃ m : Nat, k = (m : Int) := ⟨k.toNat, by omega⟩
      rw [if_neg (fun h => c (e1.mp h)), if_pos (show (1 : Int) ≤ (m : Int) by omega), ob0_s, r_size htm, ob0_s, show Int32.ofInt (m : Int) = nI m from rfl, Int.toNat_natCast]
      rcases Nat.lt_or_ge (tMem u).length m with d | d
      · rw [ile_n (by omega), List.getElem?_eq_none (by omega), f3]
        exact rAns_3
      · have hk : m - 1 < (tMem u).length := by omega
        obtain ⟨z, p1, p2⟩ := r_member (n := n) (i := i) (j := j) htm hk
        rw [ile_p (by omega), ob0_s, show (1 : Int32) = nI 1 from rfl, sub_n (by omega), p1, ob0_s, List.getElem?_eq_getElem hk]
        exact rAns_v p2
theorem r_vmember {n : Nat} {i : Nat → Int32} {j : Nat → Int64} {a : Nat → Nat → Int32} {b : Nat → Nat → Int64} {B : RB4} {t u : Tr} {x y : Int64} (hn : 100000 ≤ n) (hB : B.1 ≤ 120000 ∧ B.2.1 ≤ 300000 ∧ B.2.2.1 ≤ 90000 ∧ B.2.2.2 ≤ 90000) (hT : rTr j a b B) (ht : rV a b B t none x) (hu : rV a b B u none y) (hl : isL u = true) : ∃ b' v, m_Model_values n i j a b (nI 46) x y = some (i, j, a, b', v) ∧ oB b b' ∧ rV a b' B (aTruth (dec (t ∈ tMem u))) none v := by
  have t1 := r_isL_eq hu hl
  have htm := hu
  rw [t1] at htm
  obtain ⟨b', e1, e2⟩ := r_holds (n := n) (i := i) (j := j) hn hB htm ht
  have e10 := e2 10 (by decide) (by decide)
  obtain ⟨v, e3, e4⟩ := r_truth (n := n) (i := i) (j := j) (a := a) (b := b') (B := B) ⟨rV_b e10 hB hT.1, rV_b e10 hB hT.2⟩ (dec (t ∈ tMem u))
  refine ⟨b', v, ?_, e2, e4⟩
  unfold m_Model_values
  rw [ob1_s, if_neg (by decide), if_neg (by decide), if_neg (by decide), if_neg (by decide), if_neg (by decide), if_neg (by decide), if_neg (by decide), if_neg (by decide), if_neg (by decide), if_neg (by decide), if_neg (by decide), if_neg (by decide), if_neg (by decide), if_neg (by decide), if_pos (by decide), e1, om_s, e3, ob0_s]

