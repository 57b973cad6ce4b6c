/-! values that the reference puts in a row -/
def PUT (i0 i : Nat → Int32) (a : Nat → Nat → Int32) (b0 b : Nat → Nat → Int64) (B : RB4) (l : List Tr) : Prop :=
  ((∀ q, q ≠ 20 → i q = i0 q) ∧ i 20 = nI (B.2.2.2 + l.length) ∧ B.2.2.2 + l.length ≤ 90000) ∧ ((∀ q, q ≠ 10 → b q = b0 q) ∧ ∀ x, x < B.2.2.2 → b 10 x = b0 10 x) ∧ ∀ k (h : k < l.length), rV a b0 B (l[k]'h) none (b 10 (B.2.2.2 + k))
theorem PUT_nil {i : Nat → Int32} {a : Nat → Nat → Int32} {b : Nat → Nat → Int64} {B : RB4} (h : i 20 = nI B.2.2.2) (hB : B.1 ≤ 120000 ∧ B.2.1 ≤ 300000 ∧ B.2.2.1 ≤ 90000 ∧ B.2.2.2 ≤ 90000) : PUT i i a b b B [] := ⟨⟨fun _ _ => rfl, h, hB.2.2.2⟩, ⟨fun _ _ => rfl, fun _ _ => rfl⟩, fun k h => absurd h (Nat.not_lt_zero k)⟩
theorem PUT_up {i0 : Nat → Int32} {b0 : Nat → Nat → Int64} {i : Nat → Int32} {a : Nat → Nat → Int32} {b : Nat → Nat → Int64} {B : RB4} {l : List Tr} (hB : B.1 ≤ 120000 ∧ B.2.1 ≤ 300000 ∧ B.2.2.1 ≤ 90000 ∧ B.2.2.2 ≤ 90000) (h : PUT i0 i a b0 b B l) : rUp a b0 B a b B ∧ rUp a b B a b0 B :=
  ⟨⟨⟨Nat.le_refl _, hB.1, Nat.le_refl _, hB.2.1, Nat.le_refl _, hB.2.2.1, Nat.le_refl _, hB.2.2.2⟩, fun _ _ => ⟨rfl, rfl⟩, fun _ _ => rfl, fun _ _ => ⟨rfl, rfl, rfl⟩, fun x hx => h.2.1.2 x hx⟩,
   ⟨⟨Nat.le_refl _, hB.1, Nat.le_refl _, hB.2.1, Nat.le_refl _, hB.2.2.1, Nat.le_refl _, hB.2.2.2⟩, fun _ _ => ⟨rfl, rfl⟩, fun _ _ => rfl, fun _ _ => ⟨rfl, rfl, rfl⟩, fun x hx => (h.2.1.2 x hx).symm⟩⟩
theorem r_put1 {n : Nat} {i0 : Nat → Int32} {b0 : Nat → Nat → Int64} {i : Nat → Int32} {j : Nat → Int64} {a : Nat → Nat → Int32} {b : Nat → Nat → Int64} {B : RB4} {l : List Tr} {t : Tr} {v : Int64} (h : PUT i0 i a b0 b B l) (hr : B.2.2.2 + l.length < 90000) (hv : rV a b0 B t none v) : ∃ i' b', m_Model_put n i j a b v = some (i', j, a, b', 0) ∧ PUT i0 i' a b0 b' B (l ++ [t]) := by
  obtain ⟨⟨h1, h2, h3⟩, ⟨h4, h5⟩, h6⟩ := h
  have e10 : ∀ y, svl b 10 (B.2.2.2 + l.length) v 10 y = vp_updL (b 10) (B.2.2.2 + l.length) v y := fun _ => rfl
  refine ⟨_, _, r_put h2 hr, ⟨fun q hq => (upd_ne hq).trans (h1 q hq), by rw [upd_at, List.length_append]; rfl, by rw [List.length_append]; show B.2.2.2 + (l.length + 1) ≤ 90000; omega⟩, ⟨fun q hq => (updB_ne hq).trans (h4 q hq), fun x hx => by rw [e10, updL_ne (by omega)]; exact h5 x hx⟩, fun k hk => ?_⟩
  rw [List.length_append] at hk
  have hk : k < l.length + 1 := hk
  rw [e10]
  rcases Nat.lt_or_ge k l.length with c | c
  · rw [List.getElem_append_left c, updL_ne (by omega)]
    exact h6 k c
  · have ek : k = l.length := by omega
    subst ek
    rw [List.getElem_concat_length rfl, updL_at]
    exact hv
theorem r_putAll_b {n : Nat} {i0 : Nat → Int32} {b0 : Nat → Nat → Int64} {j : Nat → Int64} {a : Nat → Nat → Int32} {B : RB4} {ms : List Tr} {v : Int64} (hB : B.1 ≤ 120000 ∧ B.2.1 ≤ 300000 ∧ B.2.2.1 ≤ 90000 ∧ B.2.2.2 ≤ 90000) (hv : rV a b0 B (tL ms) none v) : ∀ (m k f : Nat) (i : Nat → Int32) (b : Nat → Nat → Int64) (l : List Tr), k + m = ms.length → m < f → PUT i0 i a b0 b B l → B.2.2.2 + l.length + m ≤ 90000 → ∃ i' b', m_Model_putAll_b15 n f i j a b v (nI k) = some (i', j, a, b', 0) ∧ PUT i0 i' a b0 b' B (l ++ ms.drop k) := by
  have hc : ms.length ≤ 90000 := by
    obtain ⟨l, p, _, h3, _⟩ := rV_tL.mp hv
    have := h3.2.2.2.2.2.2.1
    omega
  intro m
  induction m with
  | zero =>
    intro k f i b l e hf h hr
    obtain ⟨f, rfl⟩ : ∃ f', f = f' + 1 := ⟨f - 1, by omega⟩
    have hv' := (rV_up (PUT_up hB h).1 _).1 _ hv
    refine ⟨i, b, ?_, by rw [List.drop_of_length_le (by omega), List.append_nil]; exact h⟩
    rw [m_Model_putAll_b15, r_size hv', ob0_s, ile_p (by omega)]
  | succ m ih =>
    intro k f i b l e hf h hr
    obtain ⟨f, rfl⟩ : ∃ f', f = f' + 1 := ⟨f - 1, by omega⟩
    have hv' := (rV_up (PUT_up hB h).1 _).1 _ hv
    have hk : k < ms.length := by omega
    obtain ⟨z, p1, p2⟩ := r_member (n := n) (i := i) (j := j) hv' hk
    obtain ⟨i1, b1, q1, q2⟩ := r_put1 (n := n) (j := j) h (by omega) ((rV_up (PUT_up hB h).2 _).1 _ p2)
    obtain ⟨i2, b2, z1, z2⟩ := ih (k + 1) f i1 b1 _ (by omega) (by omega) q2 (by rw [List.length_append, List.length_singleton]; omega)
    refine ⟨i2, b2, ?_, ?_⟩
    · rw [m_Model_putAll_b15, r_size hv', ob0_s, ile_n (by omega), p1, ob0_s, q1, om_s, ob1_s, show (1 : Int32) = nI 1 from rfl, nI_add]
      exact z1
    · rw [List.append_assoc] at z2
      rw [List.drop_eq_getElem_cons hk]
      exact z2
theorem r_putAll {n : Nat} {i0 : Nat → Int32} {b0 : Nat → Nat → Int64} {i : Nat → Int32} {j : Nat → Int64} {a : Nat → Nat → Int32} {b : Nat → Nat → Int64} {B : RB4} {l : List Tr} {t : Tr} {v : Int64} (hn : 100000 ≤ n) (hB : B.1 ≤ 120000 ∧ B.2.1 ≤ 300000 ∧ B.2.2.1 ≤ 90000 ∧ B.2.2.2 ≤ 90000) (hv : rV a b0 B t none v) (h : PUT i0 i a b0 b B l) (hr : B.2.2.2 + l.length + (aSen t).length ≤ 90000) : ∃ i' b', m_Model_putAll n i j a b v = some (i', j, a, b', 0) ∧ PUT i0 i' a b0 b' B (l ++ aSen t) := by
  obtain ⟨_, _, kl⟩ := r_kinds n hv
  unfold m_Model_putAll aSen at *
  rw [kl, ob0_s]
  cases hl : isL t with
  | false =>
    rw [hl] at hr
    obtain ⟨i1, b1, q1, q2⟩ := r_put1 (n := n) (j := j) h (by simp at hr; omega) hv
    refine ⟨i1, b1, ?_, q2⟩
    rw [b1_f, if_pos (show nI 0 = (0 : Int32) from rfl), q1, om_s]
  | true =>
    rw [hl] at hr
    have t1 := r_isL_eq hv hl
    have hv2 := hv
    rw [t1] at hv2
    have hr : B.2.2.2 + l.length + (tMem t).length ≤ 90000 := hr
    obtain ⟨i1, b1, q1, q2⟩ := r_putAll_b (n := n) (j := j) hB hv2 (tMem t).length 0 n i b l (by omega) (by omega) h hr
    refine ⟨i1, b1, ?_, q2⟩
    rw [b1_t, if_neg (show ¬ nI 1 = (0 : Int32) by decide)]
    exact q1
/-- a list is made of what was put -/
def LST (i0 : Nat → Int32) (j : Nat → Int64) (a : Nat → Nat → Int32) (b0 : Nat → Nat → Int64) (B : RB4) (made : Nat) (ms : List Tr) (o : Option ((Nat → Int32) × (Nat → Int64) × (Nat → Nat → Int32) × (Nat → Nat → Int64) × Int64)) : Prop :=
  ∃ i' a' b' v B', o = some (i', j, a', b', v) ∧ rUp a b0 B a' b' B' ∧ rB i' B' ∧ (B'.1 = B.1 ∧ B'.2.1 = B.2.1 ∧ B'.2.2.1 ≤ B.2.2.1 + 1 ∧ B'.2.2.2 ≤ B.2.2.2 + ms.length) ∧ (∀ q, q ≠ 12 → q ≠ 13 → q ≠ 14 → a' q = a q) ∧ (∀ q, q ≠ 10 → b' q = b0 q) ∧
    ((aList made ms = .error 8 ∧ v = 3 ∧ i' 102 = 2 ∧ i' 126 = nI 8 ∧ ∀ q, q ≠ 102 → q ≠ 126 → i' q = i0 q) ∨
     (aList made ms = .ok (made + ms.length + 1, tL ms) ∧ rV a' b' B' (tL ms) none v ∧ i' 96 = nI (made + ms.length + 1) ∧ ∀ q, q ≠ 20 → q ≠ 21 → q ≠ 96 → i' q = i0 q))
theorem r_listedP {n : Nat} {i0 : Nat → Int32} {b0 : Nat → Nat → Int64} {i : Nat → Int32} {j : Nat → Int64} {a : Nat → Nat → Int32} {b : Nat → Nat → Int64} {B : RB4} {ms : List Tr} {made : Nat} (hn : 90001 ≤ n) (hi : rB i0 B) (hL : B.2.2.1 < 90000) (h96 : i0 96 = nI made) (hm : made ≤ 30000) (h : PUT i0 i a b0 b B ms) : LST i0 j a b0 B made ms (m_Model_listed n i j a b (nI B.2.2.2)) := by
  obtain ⟨j1, j2, j3, j4, j5, j6, j7, j8⟩ := hi
  have hB : B.1 ≤ 120000 ∧ B.2.1 ≤ 300000 ∧ B.2.2.1 ≤ 90000 ∧ B.2.2.2 ≤ 90000 := ⟨j5, j6, j7, j8⟩
  have hu := PUT_up hB h
  obtain ⟨⟨h1, h2, h3⟩, ⟨h4, h5⟩, h6⟩ := id h
  rcases r_listed (n := n) (j := j) hn h2 ((h1 21 (by decide)).trans j3) ((h1 96 (by decide)).trans h96) hm ⟨j5, j6, hL, h3⟩ (fun k hk => (rV_up hu.1 _).1 _ (h6 k hk)) with ⟨e1, i', e2, e3, e4, e5, e6⟩ | ⟨e1, i', a', e2, e3, e4, e5, e6, e7, e8⟩
  · refine ⟨i', a, b, 3, B, e2, hu.1, ⟨(e6 19 (by decide) (by decide) (by decide)).trans ((h1 19 (by decide)).trans j1), (e6 18 (by decide) (by decide) (by decide)).trans ((h1 18 (by decide)).trans j2), (e6 21 (by decide) (by decide) (by decide)).trans ((h1 21 (by decide)).trans j3), e5, hB⟩, ⟨rfl, rfl, by omega, by omega⟩, fun _ _ _ _ => rfl, h4, Or.inl ⟨e1, rfl, e3, e4, fun q q1 q2 => ?_⟩⟩
    rcases Classical.em (q = 20) with c | c
    · rw [c, e5, j4]
    · rw [e6 q c q1 q2, h1 q c]
  · refine ⟨i', a', b, vL B.2.2.1, (B.1, B.2.1, B.2.2.1 + 1, B.2.2.2 + ms.length), e2, rUp_trans hu.1 e3, ⟨(e7 19 (by decide) (by decide)).trans ((h1 19 (by decide)).trans j1), (e7 18 (by decide) (by decide)).trans ((h1 18 (by decide)).trans j2), e5, (e7 20 (by decide) (by decide)).trans h2, j5, j6, hL, h3⟩, ⟨rfl, rfl, Nat.le_refl _, Nat.le_refl _⟩, e8, h4, Or.inr ⟨e1, e4, e6, fun q q1 q2 q3 => (e7 q q2 q3).trans (h1 q q1)⟩⟩

