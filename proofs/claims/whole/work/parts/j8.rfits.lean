/-! what a word asks of its inputs, in the reference -/
def rFit1 (k : Nat) (v : Tr) : Bool :=
  if k = 110 then isN v else if k = 108 then isL v else if k = 119 then isW v
  else if k = 98 then isW v && (decide (tLet v = wTrue) || decide (tLet v = wFalse))
  else if k = 116 then isN v && decide (0 ≤ tNum v ∧ tNum v < 8) else true
theorem tx11 : isTx 11 wTrue := ⟨by decide, by decide, by decide, by decide, by decide +kernel⟩
theorem tx12 : isTx 12 wFalse := ⟨by decide, by decide, by decide, by decide, by decide +kernel⟩
theorem r_isTruth {n : Nat} {i : Nat → Int32} {j : Nat → Int64} {a : Nat → Nat → Int32} {b : Nat → Nat → Int64} {B : RB4} {t : Tr} {v : Int64} (hn : 100 ≤ n) (h : rV a b B t none v) : m_Model_isTruth n i j a b v = some (b1 (isW t && (decide (tLet t = wTrue) || decide (tLet t = wFalse)))) := by
  obtain ⟨_, k2, _⟩ := r_kinds n h
  unfold m_Model_isTruth
  rw [k2, ob0_s]
  cases hw : isW t with
  | false => rw [b1_f, if_pos (show nI 0 = (0 : Int32) from rfl)]; rfl
  | true =>
    obtain ⟨x, rfl, hx⟩ := r_isW_eq h hw
    have hxb : x < 120000 := by have := hx.1; have := hx.2.1; omega
    rw [b1_t, if_neg (show ¬ nI 1 = (0 : Int32) by decide), r_whatW (by omega), ob0_s, r_isText hn hx tx11, ob0_s]
    rcases Classical.em (tLet t = wTrue) with c | c
    · rw [decide_eq_true c, b1_t, if_neg (show ¬ nI 1 = (0 : Int32) by decide)]
      rfl
    · rw [decide_eq_false c, b1_f, if_pos (show nI 0 = (0 : Int32) from rfl), ob0_s, r_isText hn hx tx12, ob0_s]
      rcases Classical.em (tLet t = wFalse) with d | d
      · rw [decide_eq_true d, b1_t, if_neg (show ¬ nI 1 = (0 : Int32) by decide)]
        rfl
      · rw [decide_eq_false d, b1_f, if_pos (show nI 0 = (0 : Int32) from rfl)]
        rfl
def rFits : List Nat → List Tr → Bool
  | [], _ => true
  | _ :: _, [] => false
  | k :: ks, v :: vs => rFit1 k v && rFits ks vs
theorem r_fits_b {n : Nat} {i : Nat → Int32} {j : Nat → Int64} {a : Nat → Nat → Int32} {b : Nat → Nat → Int64} {B : RB4} {ks : List Nat} {vs : List Tr} {t p : Nat} (hn : 100 ≤ n) (ht : isTx t ks) (hl : vs.length = ks.length) (hp : p + ks.length ≤ 36000) (hv : ∀ k (h : k < vs.length), rV a b B (vs[k]'h) none (b 111 (p + k))) : ∀ (m q f : Nat), q + m = ks.length → m < f → m_Model_fits_b2 n f i j a b (nI p) t (nI q) = if rFits (ks.drop q) (vs.drop q) = true then some (i, j, a, b, 1) else some (rFail i 3, j, a, b, 0) := by
  obtain ⟨t1, t2, t3, t4, t5⟩ := ht
  intro m
  induction m with
  | zero =>
    intro q f e hf
    obtain ⟨f, rfl⟩ : ∃ f', f = f' + 1 := ⟨f - 1, by omega⟩
    rw [m_Model_fits_b2, t2]
    unfold ct
    rw [if_pos t1, ile_p (by omega), List.drop_of_length_le (by omega)]
    rfl
  | succ m ih =>
    intro q f e hf
    obtain ⟨f, rfl⟩ : ∃ f', f = f' + 1 := ⟨f - 1, by omega⟩
    have hq : q < ks.length := by omega
    have hq2 : q < vs.length := by omega
    have hvq := hv q hq2
    obtain ⟨k1, k2, k3⟩ := r_kinds n hvq
    have hc := t4 _ (List.getElem_mem hq)
    have en : rFits (ks.drop q) (vs.drop q) = (rFit1 ks[q] vs[q] && rFits (ks.drop (q + 1)) (vs.drop (q + 1))) := by
      rw [List.drop_eq_getElem_cons hq, List.drop_eq_getElem_cons hq2]
      rfl
    have fin : ∀ g : Bool, g = rFit1 ks[q] vs[q] → m_Model_fits_b126 n (m_Model_fits_b2 n f) i j a b (nI p) t (nI q) (b1 g) = if rFits (ks.drop q) (vs.drop q) = true then some (i, j, a, b, 1) else some (rFail i 3, j, a, b, 0) := fun g hg => by
      unfold m_Model_fits_b126 ct
      rw [if_pos t1, en, ← hg]
      cases g with
      | false =>
        rw [b1_f, if_pos (show nI 0 = (0 : Int32) from rfl), show (3 : Int32) = nI 3 from rfl, r_fails, om_s]
        rfl
      | true =>
        rw [b1_t, if_neg (show ¬ nI 1 = (0 : Int32) by decide), ob1_s, show nI q + 1 = nI (q + 1) from nI_1 q, ih (q + 1) f (by omega) (by omega), Bool.true_and]
    have f1 : true = rFit1 ks[q] vs[q] → m_Model_fits_b121 n (m_Model_fits_b2 n f) i j a b (nI p) t (nI q) = if rFits (ks.drop q) (vs.drop q) = true then some (i, j, a, b, 1) else some (rFail i 3, j, a, b, 0) := fun hg => by
      unfold m_Model_fits_b121 ct
      rw [if_pos t1]
      exact fin true hg
    have f0 : false = rFit1 ks[q] vs[q] → m_Model_fits_b125 n (m_Model_fits_b2 n f) i j a b (nI p) t (nI q) = if rFits (ks.drop q) (vs.drop q) = true then some (i, j, a, b, 1) else some (rFail i 3, j, a, b, 0) := fun hg => by
      unfold m_Model_fits_b125 ct
      rw [if_pos t1]
      exact fin false hg
    rw [m_Model_fits_b2, t2]
    unfold ct
    rw [if_pos t1, ile_n (by omega), nI_add, ck_n (by omega), ob1_s, cl_n (by omega), cs_n (by omega), ob1_s, cl_n (by omega), t5 q hq, show (110 : Int32) = nI 110 from rfl, show (108 : Int32) = nI 108 from rfl, show (119 : Int32) = nI 119 from rfl, show (98 : Int32) = nI 98 from rfl, show (116 : Int32) = nI 116 from rfl]
    unfold rFit1 at fin f1 f0
    rcases Classical.em (ks[q] = 110) with c | c
    · rw [ieq_p c, k1, ob0_s]
      exact fin _ (by rw [if_pos c])
    rw [ieq_n ⟨c, by omega, by omega⟩]
    rcases Classical.em (ks[q] = 108) with c2 | c2
    · rw [ieq_p c2, k3, ob0_s]
      exact fin _ (by rw [if_neg c, if_pos c2])
    rw [ieq_n ⟨c2, by omega, by omega⟩]
    rcases Classical.em (ks[q] = 119) with c3 | c3
    · rw [ieq_p c3, k2, ob0_s]
      exact fin _ (by rw [if_neg c, if_neg c2, if_pos c3])
    rw [ieq_n ⟨c3, by omega, by omega⟩]
    rcases Classical.em (ks[q] = 98) with c4 | c4
    · rw [ieq_p c4, r_isTruth hn hvq, ob0_s]
      exact fin _ (by rw [if_neg c, if_neg c2, if_neg c3, if_pos c4])
    rw [ieq_n ⟨c4, by omega, by omega⟩]
    rcases Classical.em (ks[q] = 116) with c5 | c5
    · rw [ieq_p c5, k1, ob0_s]
      cases hN : isN vs[q] with
      | false =>
        rw [b1_f, if_pos (show nI 0 = (0 : Int32) from rfl)]
        exact f0 (by rw [if_neg c, if_neg c2, if_neg c3, if_neg c4, if_pos c5, hN]; rfl)
      | true =>
        obtain ⟨z, ez, b1', b2', ex⟩ : ∃ z, vs[q] = tN z ∧ -1000000000 ≤ z ∧ z ≤ 1000000000 ∧ b 111 (p + q) = vN z := by
          rcases rV_cases hvq with h | ⟨l, w, el, _⟩ | ⟨ms, l, p, el, _⟩
          · exact h
          · rw [el, isN_tW] at hN; cases hN
          · rw [el, isN_tL] at hN; cases hN
        have hz : tNum vs[q] = z := by rw [ez, tNum_tN]
        have g0 : Int32.ofInt z < (0 : Int32) ↔ z < 0 := by
          have := i32_le (x := 0) (y := z) (by decide) ⟨b1', b2'⟩
          rw [show (0 : Int32) = Int32.ofInt 0 from rfl, ← Int32.not_le, this]
          omega
        have g8 : (8 : Int32) ≤ Int32.ofInt z ↔ 8 ≤ z := i32_le (x := 8) (by decide) ⟨b1', b2'⟩
        rw [b1_t, if_neg (show ¬ nI 1 = (0 : Int32) by decide), ex, r_whatN b1' b2', ob0_s]
        rcases Classical.em (z < 0) with d | d
        · rw [if_pos (g0.mpr d)]
          exact f0 (by rw [if_neg c, if_neg c2, if_neg c3, if_neg c4, if_pos c5, hN, hz, decide_eq_false (by omega)]; rfl)
        · rw [if_neg (fun h => d (g0.mp h)), ob0_s]
          rcases Classical.em (8 ≤ z) with d2 | d2
          · rw [if_pos (g8.mpr d2)]
            exact f0 (by rw [if_neg c, if_neg c2, if_neg c3, if_neg c4, if_pos c5, hN, hz, decide_eq_false (by omega)]; rfl)
          · rw [if_neg (fun h => d2 (g8.mp h))]
            exact f1 (by rw [if_neg c, if_neg c2, if_neg c3, if_neg c4, if_pos c5, hN, hz, decide_eq_true (by omega)]; rfl)
    rw [ieq_n ⟨c5, by omega, by omega⟩]
    exact f1 (by rw [if_neg c, if_neg c2, if_neg c3, if_neg c4, if_neg c5])

