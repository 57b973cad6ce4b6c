/-! the class reads a token -/
theorem tDp_flat {v : Tr} (h : isL v = false) : tDp v = 0 := by
  cases v with
  | nil => cases h
  | append m t => cases h
  | _ => rfl
theorem RB_push {g : Nat → Nat} {i : Nat → Int32} {a : Nat → Nat → Int32} {T B e : Nat} {dfn : Bool} {P : List Proc} {st : Nat} {K : List (List Tr)} {tok : Nat} {D : List Proc} {cw : Nm} {ci : List Nm} {fr fk fp : Nat} (h : RB g i a T dfn P B e 1 4 1 1 (st, K, tok, D, cw, ci, fr, fk, fp)) (hK : K.length ≤ 20) (hst : st = 3) : RB g (upd i 29 (nI K.length)) (sv a 33 (K.length - 1) (nI (kHt K))) T dfn P B e 0 0 0 0 (st, [] :: K, tok, D, cw, ci, fr, fk, fp) := by
  obtain ⟨hG, ⟨i1, i2, i3, i4, i5, i6, i7, i8⟩, ⟨r1, r2, r3, r4⟩, ⟨s1, s2, s3, s4, s5, s6, s7, s8, s9, s10, s11, s12, s13, s14⟩⟩ := h
  dsimp only at i1 i2 i3 i4 i5 i6 i7 i8 r1 r2 r3 r4 s1 s2 s3 s4 s5 s6 s7 s8 s9 s10 s11 s12 s13 s14
  have hl : 1 ≤ K.length := by
    cases K with
    | nil => exact absurd rfl s1
    | cons a b => simp
  have fr9 : rFrm i a T (upd i 29 (nI K.length)) (sv a 33 (K.length - 1) (nI (kHt K))) := by
    refine ⟨fun q h1 h2 => upd_ne (by omega), fun q h1 h2 => ?_, fun x hx => ?_⟩
    · show updA a 33 _ q = a q
      exact updA_ne (by omega)
    · show updA a 33 _ 0 x = a 0 x
      rw [updA_ne (by decide)]
  refine ⟨rdGen_up hG (Nat.le_refl _) hG.1 ⟨hG.2.2.1, hG.2.1.2⟩ (Nat.le_refl _) hG.2.2.2.2.1 fr9, ⟨i1, ?_, rfl, i4, i5, i6, i7, i8⟩, ⟨⟨fun j hj => absurd hj (Nat.not_lt_zero j), fun _ => ?_, ?_⟩, r2, r3, r4⟩, ⟨List.cons_ne_nil _ _, by simp only [List.length_cons]; omega, ?_, ?_, ?_, ?_, by show fr + 0 ≤ tok; omega, ?_, s9, fun hh => absurd (show st < 3 from hh) (by omega), fun hh => absurd (show st < 2 from hh) (by omega), fun hh => absurd (show st = 2 from hh) (by omega), s13, s14⟩⟩
  · show upd i 29 _ 28 = nI (kHt ([] :: K))
    rw [upd_ne (by decide), i2, kHt, List.length_nil, Nat.zero_add]
  · show upd (a 33) (K.length - 1) _ (K.length - 1) = _
    rw [upd_at]
  · refine stkR_keep (Nat.le_refl T) (fun _ _ => rfl) K (fun _ _ => rfl) (fun x hx => ?_) r1
    show upd (a 33) (K.length - 1) _ x = _
    rw [upd_ne (by omega)]
  · show kHt ([] :: K) + 0 ≤ tok
    rw [kHt, List.length_nil]; omega
  · show kSh ([] :: K) + 2 * (([] :: K).length - 1) + 0 + 0 ≤ e + tok
    rw [kSh, shL_nil, List.length_cons]; omega
  · show kDp ([] :: K) + (([] :: K).length - 1) + 0 ≤ tok
    rw [kDp, dpL_nil, List.length_cons]; omega
  · show 3 * D.length + (if dfn then min st 2 else 0) + 0 ≤ tok
    omega
  · show T + kHt ([] :: K) + pend st + 0 ≤ B + 4 * e
    rw [kHt, List.length_nil]; omega
theorem RB_add {g : Nat → Nat} {i : Nat → Int32} {a : Nat → Nat → Int32} {T B e s c u y : Nat} {dfn : Bool} {P : List Proc} {st : Nat} {m : List Tr} {R : List (List Tr)} {tok : Nat} {D : List Proc} {cw : Nm} {ci : List Nm} {fr fk fp : Nat} {v : Tr} {x : Int32} (h : RB g i a T dfn P B e s c u y (st, m :: R, tok, D, cw, ci, fr, fk, fp)) (hx : cV (a 0) T v none x) (h1 : (aSh v 0).length + 1 ≤ s + u) (h2 : tDp v ≤ y) (h3 : 1 ≤ c) (h4 : 1 ≤ u) (hst : st = 3 ∨ (st = 2 ∧ ∃ ins : List Nm, (m ++ [v]) :: R = [ins.map tW])) : RB g (upd i 28 (nI (kHt (m :: R) + 1))) (sv a 32 (kHt (m :: R)) x) T dfn P B e 0 0 0 0 (st, (m ++ [v]) :: R, tok, D, cw, ci, fr, fk, fp) := by
  obtain ⟨hG, ⟨i1, i2, i3, i4, i5, i6, i7, i8⟩, ⟨⟨r1, ra, rb⟩, r2, r3, r4⟩, ⟨s1, s2, s3, s4, s5, s6, s7, s8, s9, s10, s11, s12, s13, s14⟩⟩ := h
  dsimp only at i1 i2 i3 i4 i5 i6 i7 i8 r1 r2 r3 r4 s1 s2 s3 s4 s5 s6 s7 s8 s9 s10 s11 s12 s13 s14
  have e1 : kHt ((m ++ [v]) :: R) = kHt (m :: R) + 1 := by
    rw [kHt, kHt, List.length_append, List.length_cons, List.length_nil]; omega
  have e2 : kSh ((m ++ [v]) :: R) = kSh (m :: R) + ((aSh v 0).length + 1) := by
    rw [kSh, kSh, shL_add, shL_one]; omega
  have e3 : kDp ((m ++ [v]) :: R) = kDp (m :: R) + tDp v := by
    rw [kDp, kDp, dpL_add, dpL_one]; omega
  have e4 : kHt (m :: R) = kHt R + m.length := by rw [kHt]; omega
  have fr9 : rFrm i a T (upd i 28 (nI (kHt (m :: R) + 1))) (sv a 32 (kHt (m :: R)) x) := by
    refine ⟨fun q h1 h2 => upd_ne (by omega), fun q h1 h2 => ?_, fun x hx => ?_⟩
    · show updA a 32 _ q = a q
      exact updA_ne (by omega)
    · show updA a 32 _ 0 x = a 0 x
      rw [updA_ne (by decide)]
  refine ⟨rdGen_up hG (Nat.le_refl _) hG.1 ⟨hG.2.2.1, hG.2.1.2⟩ (Nat.le_refl _) hG.2.2.2.2.1 fr9, ⟨i1, ?_, i3, i4, i5, i6, i7, i8⟩, ⟨⟨fun j hj => ?_, ra, ?_⟩, r2, r3, r4⟩, ⟨List.cons_ne_nil _ _, s2, ?_, ?_, ?_, ?_, by show fr + 0 ≤ tok; omega, ?_, s9, s10, fun hh => ?_, fun hh => ?_, s13, s14⟩⟩
  · show upd i 28 _ 28 = nI (kHt ((m ++ [v]) :: R))
    rw [upd_at, e1]
  · show cV (a 0) T _ none (upd (a 32) (kHt (m :: R)) x (kHt R + j))
    rw [List.length_append, List.length_cons, List.length_nil] at hj
    rcases Nat.lt_or_ge j m.length with c | c
    · rw [upd_ne (by omega), List.getElem_append_left c]
      exact r1 j c
    · have ej : j = m.length := by omega
      subst ej
      rw [show kHt R + m.length = kHt (m :: R) from e4.symm, upd_at, List.getElem_append_right (Nat.le_refl _)]
      simp only [Nat.sub_self, List.getElem_cons_zero]
      exact hx
  · refine stkR_keep (Nat.le_refl T) (fun _ _ => rfl) R (fun z hz => ?_) (fun _ _ => rfl) rb
    show upd (a 32) (kHt (m :: R)) x z = _
    rw [upd_ne (by omega)]
  · show kHt ((m ++ [v]) :: R) + 0 ≤ tok
    rw [e1]; omega
  · show kSh ((m ++ [v]) :: R) + 2 * (((m ++ [v]) :: R).length - 1) + 0 + 0 ≤ e + tok
    rw [e2]
    simp only [List.length_cons] at s4 ⊢
    omega
  · show kDp ((m ++ [v]) :: R) + (((m ++ [v]) :: R).length - 1) + 0 ≤ tok
    rw [e3]
    simp only [List.length_cons] at s5 ⊢
    omega
  · show 3 * D.length + (if dfn then min st 2 else 0) + 0 ≤ tok
    omega
  · show T + kHt ((m ++ [v]) :: R) + pend st + 0 ≤ B + 4 * e
    rw [e1]; omega
  · have hh : st < 2 := hh
    rcases hst with q | q <;> omega
  · have hh : st = 2 := hh
    rcases hst with q | q
    · omega
    · exact q.2
/-- a list is closed: its cells stand behind -/
theorem RB_pop {g : Nat → Nat} {i : Nat → Int32} {a : Nat → Nat → Int32} {g' : Nat → Nat} {T B e : Nat} {dfn : Bool} {P : List Proc} {m2 : List Tr} {st : Nat} {m : List Tr} {R : List (List Tr)} {tok : Nat} {D : List Proc} {cw : Nm} {ci : List Nm} {fr fk fp : Nat} {f : Nat → Int32} (h : RB g i a T dfn P B e 1 4 1 1 (st, m :: m2 :: R, tok, D, cw, ci, fr, fk, fp)) (hf : ∀ x, x < T → f x = a 0 x) (hg1 : T + 1 + m.length ≤ g' 0 ∧ sA f (T + 1 + m.length) = 0) (hg2 : g 0 ≤ g' 0) (hg3 : g' 0 ≤ 340000) : RB g' (upd (upd (upd i 29 (nI R.length)) 8 (nI (T + 1 + m.length))) 28 (nI (kHt (m2 :: R)))) (updA a 0 f) (T + 1 + m.length) dfn P B e (shL m + 3) 3 1 (dpL m + 2) (st, m2 :: R, tok, D, cw, ci, fr, fk, fp) := by
  obtain ⟨hG, ⟨i1, i2, i3, i4, i5, i6, i7, i8⟩, ⟨⟨r1, ra, rb⟩, r2, r3, r4⟩, ⟨s1, s2, s3, s4, s5, s6, s7, s8, s9, s10, s11, s12, s13, s14⟩⟩ := h
  dsimp only at i1 i2 i3 i4 i5 i6 i7 i8 r1 r2 r3 r4 s1 s2 s3 s4 s5 s6 s7 s8 s9 s10 s11 s12 s13 s14
  have e1 : kHt (m :: m2 :: R) = m.length + kHt (m2 :: R) := by rw [kHt]
  have e2 : kSh (m :: m2 :: R) = shL m + kSh (m2 :: R) := by rw [kSh]
  have e3 : kDp (m :: m2 :: R) = dpL m + kDp (m2 :: R) := by rw [kDp]
  simp only [List.length_cons] at s2 s4 s5 s10
  have hst : st = 3 := by
    rcases Nat.lt_or_ge st 3 with q | q
    · have := s10 q
      omega
    · omega
  have fr9 : rFrm i a T (upd (upd (upd i 29 (nI R.length)) 8 (nI (T + 1 + m.length))) 28 (nI (kHt (m2 :: R)))) (updA a 0 f) := by
    refine ⟨fun q h1 h2 => ?_, fun q h1 h2 => updA_ne h1, fun x hx => ?_⟩
    · rw [upd_ne (by omega), upd_ne (by omega), upd_ne (by omega)]
    · rw [updA_at]; exact hf x hx
  refine ⟨rdGen_up hG (by omega) rfl hg1 hg2 hg3 fr9, ⟨i1, rfl, ?_, i4, i5, i6, i7, i8⟩, ⟨stkR_keep (T := T) (by omega) hf _ (fun _ _ => rfl) (fun _ _ => rfl) rb, dfR_keep (T := T) (by omega) hf (fun _ _ => rfl) (fun _ _ => rfl) (fun _ _ => rfl) r2, fun q1 q2 => cV_up (r3 q1 q2) (by omega) hf, fun q1 q2 => cV_up (r4 q1 q2) (by omega) hf⟩, ⟨List.cons_ne_nil _ _, by simp only [List.length_cons]; omega, ?_, ?_, ?_, s6, s7, ?_, s9, fun hh => absurd (show st < 3 from hh) (by omega), fun hh => absurd (show st < 2 from hh) (by omega), fun hh => absurd (show st = 2 from hh) (by omega), s13, s14⟩⟩
  · show nI R.length = nI ((m2 :: R).length - 1)
    rw [List.length_cons]; rfl
  · show kHt (m2 :: R) + 1 ≤ tok
    omega
  · show kSh (m2 :: R) + 2 * ((m2 :: R).length - 1) + (shL m + 3) + 1 ≤ e + tok
    rw [List.length_cons]; omega
  · show kDp (m2 :: R) + ((m2 :: R).length - 1) + (dpL m + 2) ≤ tok
    rw [List.length_cons]; omega
  · show T + 1 + m.length + kHt (m2 :: R) + pend st + 3 ≤ B + 4 * e
    omega
theorem aCI_3 {r : Rd} (h : 2 ≤ r.1) (h3 : r.1 ≤ 3) : (aCI r).1 = 3 ∧ (aCI r).2.1.length ≤ max r.2.1.length 1 ∧ (aCI r).2.2.1 = r.2.2.1 ∧ rdF (aCI r) = rdF r := by
  unfold aCI
  split
  · exact ⟨rfl, by show ([[]] : List (List Tr)).length ≤ _; simp only [List.length_cons, List.length_nil]; omega, rfl, rfl⟩
  · exact ⟨by omega, by omega, rfl, rfl⟩
theorem h_openList {n : Nat} {g : Nat → Nat} {i : Nat → Int32} {a : Nat → Nat → Int32} {T B e p : Nat} {dfn : Bool} {P : List Proc} {r : Rd} (hn : 10000 ≤ n) (h : RB g i a T dfn P B e 1 4 1 1 r) (hB : B + 4 * e + 1 ≤ 340000) (he : e ≤ 4000) (hf : rdF r = 0) : RO g i a T dfn P B e (aTokO p r) (m_Reader_openList n g i a (nI p)) := by
  have hg : g 0 ≤ 340000 := h.1.2.2.2.2.1
  have h26 := h.2.1.1
  have hF := RB_FL h hB (by have := h.2.2.2.2.2.1; have := h.2.2.2.2.2.2.2.2.2.2.2.2.2.2.2.2; omega) he
  have h29 := h.2.1.2.2.1
  have h30 := h.2.1.2.2.2.1
  have h32 := h.2.1.2.2.2.2.2.1
  have h14 := h.2.2.2.2.2.2.2.2.2.2.2.2.2.2.2.2
  have h9 := h.2.2.2.2.2.2.2.2.2.2.2.1
  have hK := h.2.2.2.2.1
  have hK1 : 1 ≤ r.2.1.length := by
    have := h.2.2.2.1
    cases e9 : r.2.1 with
    | nil => exact absurd e9 this
    | cons a b => simp
  unfold m_Reader_openList aTokO m_Reader_openList_b53
  simp only [i32_lit, h29, h30, h32]
  rcases Nat.lt_or_ge 20 r.2.1.length with c1 | c1
  · rw [if_pos c1, ilt_n (by omega), h_blame h26, ob_s]
    exact RO_bad hF (by decide)
  rw [if_neg (by omega), ilt_p (by omega)]
  rcases Nat.lt_or_ge 600 r.2.2.1 with c2 | c2
  · rw [if_pos c2, ile_n (by omega), h_blame h26, ob_s]
    exact RO_bad hF (by decide)
  rw [if_neg (by omega), ile_p (by omega)]
  rcases Classical.em (r.1 = 0) with c3 | c3
  · rw [if_pos c3, ieq_p c3, ieq_p c3, h_blame h26, ob_s]
    exact RO_bad hF (by decide)
  rw [if_neg c3, ieq_n ⟨c3, by omega, by omega⟩]
  rcases Classical.em (r.1 = 1) with c4 | c4
  · rw [if_pos c4, ieq_p c4, ieq_n ⟨c3, by omega, by omega⟩, h_blame h26, ob_s]
    exact RO_bad hF (by decide)
  rw [if_neg c4, ieq_n ⟨c4, by omega, by omega⟩]
  obtain ⟨i', a', g', k, T', q1, q2, q3, q4, q5⟩ := h_closeInputs hn h hB he c2 (by omega)
  obtain ⟨y1, y2, y3, y4⟩ := aCI_3 (r := r) (by omega) h9
  rw [q1]
  generalize aCI r = r1 at q5 y1 y2 y3 y4
  obtain ⟨st, K, tok, D, cw, ci, fr, fk, fp⟩ := r1
  dsimp only at y1 y2 y3
  have y5 : fk = 0 := y4.trans hf
  have hk1 : K ≠ [] := q5.2.2.2.1
  have hl : 1 ≤ K.length := by
    cases K with
    | nil => exact absurd rfl hk1
    | cons a b => simp
  have e29 : i' 29 = nI (K.length - 1) := q5.2.1.2.2.1
  have e28 : i' 28 = nI (kHt K) := q5.2.1.2.1
  refine ⟨upd i' 29 (nI K.length), sv a' 33 (K.length - 1) (nI (kHt K)), g', (k.1 + 0, k.2 + 0), T', obG_s (k' := (0, 0)) ?_, q2, q3, rFrm_trans q4 q3 ⟨fun q h1 h2 => upd_ne (by omega), fun q h1 h2 => ?_, fun x hx => ?_⟩, fun _ => ⟨RB_push q5 (by omega) y1, ?_⟩, fun hh => absurd y5 hh⟩
  · rw [e29, ck_n (by omega), ob1_s, cl_n (by omega), ob1_s, ob1_s, nI_add, show K.length - 1 + 1 = K.length by omega, e28]
  · show updA a' 33 _ q = a' q
    exact updA_ne (by omega)
  · show updA a' 33 _ 0 x = a' 0 x
    rw [updA_ne (by decide)]
  · show tok ≤ 600
    omega
theorem h_closeList {n : Nat} {g : Nat → Nat} {i : Nat → Int32} {a : Nat → Nat → Int32} {T B e p : Nat} {dfn : Bool} {P : List Proc} {r : Rd} (hn : 10000 ≤ n) (h : RB g i a T dfn P B e 1 4 1 1 r) (hB : B + 4 * e + 1 ≤ 340000) (he : e ≤ 4000) (hf : rdF r = 0) : RO g i a T dfn P B e (aTokC p r) (m_Reader_closeList n g i a (nI p)) := by
  obtain ⟨st, K, tok, D, cw, ci, fr, fk, fp⟩ := r
  have hf : fk = 0 := hf
  have hg : g 0 ≤ 340000 := h.1.2.2.2.2.1
  have h26 := h.2.1.1
  have hF := RB_FL h hB (by have := h.2.2.2.2.2.1; have := h.2.2.2.2.2.2.2.2.2.2.2.2.2.2.2.2; omega) he
  have h28 : i 28 = nI (kHt K) := h.2.1.2.1
  have h29 : i 29 = nI (K.length - 1) := h.2.1.2.2.1
  have h30 : i 30 = nI tok := h.2.1.2.2.2.1
  have h14 : tok ≤ 601 := h.2.2.2.2.2.2.2.2.2.2.2.2.2.2.2.2
  have hK : K.length ≤ 21 := h.2.2.2.2.1
  have hK0 : K ≠ [] := h.2.2.2.1
  have hHt : kHt K + 1 ≤ tok := h.2.2.2.2.2.1
  unfold m_Reader_closeList aTokC
  dsimp only
  cases K with
  | nil => exact absurd rfl hK0
  | cons m R0 =>
  cases R0 with
  | nil =>
    rw [h29, if_pos (show nI (([m] : List (List Tr)).length - 1) = (0 : Int32) from rfl), h_blame h26, ob_s]
    exact RO_bad hF (by decide)
  | cons m2 R =>
    dsimp only
    have hS := h.2.2.2
    obtain ⟨s1, s2, s3, s4, s5, s6, s7, s8, s9, s10, s11, s12, s13, s14⟩ := hS
    dsimp only at s1 s2 s3 s4 s5 s6 s7 s8 s9 s10 s11 s12 s13 s14
    have w1 : kHt (m :: m2 :: R) = m.length + kHt (m2 :: R) := by rw [kHt]
    have w2 : kSh (m :: m2 :: R) = shL m + kSh (m2 :: R) := by rw [kSh]
    have w3 : kDp (m :: m2 :: R) = dpL m + kDp (m2 :: R) := by rw [kDp]
    simp only [List.length_cons] at h29 hK s4 s5 s10
    have hr := h.2.2.1.1
    have e33 : a 33 R.length = nI (kHt (m2 :: R)) := hr.2.1 (List.cons_ne_nil _ _)
    have hm : ∀ j (h : j < m.length), cV (a 0) T (m[j]'h) none (a 32 (kHt (m2 :: R) + j)) := hr.1
    rw [show R.length + 1 + 1 - 1 = R.length + 1 by omega] at h29
    simp only [i32_lit]
    rw [h29, ieq_n (by omega), ob1_s, sub_n (by omega), show R.length + 1 - 1 = R.length by omega, ob1_s, upd_at, ck_n (by omega), ob1_s, cl_n (by omega), e33, upd_ne (by decide), h28, sub_n (by omega), show kHt (m :: m2 :: R) - kHt (m2 :: R) = m.length by omega]
    obtain ⟨f9, g', k, q1, q2, q3, q4, q5⟩ := h_newListOf_a32 (n := n) (g := g) (i := upd i 29 (nI R.length)) (a := a) (T := T) (p := kHt (m2 :: R)) (ms := m) hn h.1.1 h.1.2.2.1 (by have := h.1.2.1; omega) (by omega) h.1.2.2.2.1 hg (by omega) (list_fits (v := fun j => a 32 (kHt (m2 :: R) + j)) hm (by omega) (by omega)) (by omega) hm
    rw [q1]
    have hp := RB_pop (f := f9) h q2 q4 q5.1 q5.2.1
    have fr1 : rFrm i a T (upd (upd (upd i 29 (nI R.length)) 8 (nI (T + 1 + m.length))) 28 (nI (kHt (m2 :: R)))) (updA a 0 f9) := by
      refine ⟨fun q h1 h2 => ?_, fun q h1 h2 => updA_ne h1, fun x hx => ?_⟩
      · rw [upd_ne (by omega), upd_ne (by omega), upd_ne (by omega)]
      · rw [updA_at]; exact q2 x hx
    rcases Nat.lt_or_ge 600 tok with c2 | c2
    · rw [if_pos c2]
      have := RO_bad (g := g') (i := upd (upd (upd i 29 (nI R.length)) 8 (nI (T + 1 + m.length))) 28 (nI (kHt (m2 :: R)))) (a := updA a 0 f9) (T := T + 1 + m.length) (B := B) (e := e) (k := 6) (at_ := p) (dfn := dfn) (P := P) (r := (st, m :: m2 :: R, tok, D, cw, ci, fr, fk, fp)) (RB_FL hp hB (by show kHt (m2 :: R) ≤ 600; omega) he) (by decide)
      obtain ⟨i2, a2, g2, k2, T2, z1, z2, z3, z4, z5, z6⟩ := this
      refine ⟨i2, a2, g2, (k.1 + k2.1, k.2 + k2.2), T2, obG_s ?_, hGrow_trans q5 z2, by omega, rFrm_trans fr1 (by omega) z4, z5, z6⟩
      rw [ob1_s, show upd (upd (upd i 29 (nI R.length)) 8 (nI (T + 1 + m.length))) 28 (nI (kHt (m2 :: R))) 30 = nI tok from h30, ilt_p (by omega)]
      unfold m_Reader_closeList_b74
      rw [h_blame (show upd (upd (upd i 29 (nI R.length)) 8 (nI (T + 1 + m.length))) 28 (nI (kHt (m2 :: R))) 26 = nI 0 from h26), ob_s]
      exact z1
    · rw [if_neg (by omega)]
      have ha := RB_add hp (v := tL m) (x := nI (4 * T + 1)) q3 (by have := sh_list m; omega) (by have := dp_list m; omega) (by decide) (by decide) (by
        rcases Nat.lt_or_ge st 3 with q | q
        · exact absurd (s10 q) (by omega)
        · exact Or.inl (by omega))
      refine ⟨_, _, g', (k.1 + 0, k.2 + 0), T + 1 + m.length, obG_s (k' := (0, 0)) ?_, q5, by omega, rFrm_trans (T' := T + 1 + m.length) fr1 (by omega) ⟨fun q h1 h2 => upd_ne (by omega), fun q h1 h2 => ?_, fun x hx => ?_⟩, fun _ => ⟨ha, c2⟩, fun hh => absurd hf hh⟩
      · rw [ob1_s, show upd (upd (upd i 29 (nI R.length)) 8 (nI (T + 1 + m.length))) 28 (nI (kHt (m2 :: R))) 30 = nI tok from h30, ilt_n (by omega), if_neg (cV_no (by omega) q3), h_addMember (q := kHt (m2 :: R)) upd_at (by omega), ob_s]
      · show updA _ 32 _ q = _
        exact updA_ne (by omega)
      · show updA _ 32 _ 0 x = _
        rw [updA_ne (by decide)]

