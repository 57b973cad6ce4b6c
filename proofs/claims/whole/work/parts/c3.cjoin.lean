/-! OUT, and words that are joined -/
theorem outR_add {nx kept : Int32} {sg : Nat → Int32} {o : List Nat} {c : Nat} (h : outR nx kept sg o) : ∃ q, nx = nI q ∧ q < 2000 ∧ kept = nI (min o.length 2000) ∧ outR (nI ((q + 1) % 2000)) (nI (min (min o.length 2000 + 1) 2000)) (upd sg q (nI c)) (c :: o) := by
  obtain ⟨q, h1, h2, h3, h4⟩ := h
  refine ⟨q, h1, h2, h3, (q + 1) % 2000, rfl, Nat.mod_lt _ (by decide), by rw [List.length_cons]; congr 1; omega, fun k hk hk2 => ?_⟩
  cases k with
  | zero =>
    rw [show ((q + 1) % 2000 + 1999 - 0) % 2000 = q by omega, upd_at]
    rfl
  | succ k =>
    simp only [List.length_cons] at hk
    have e : ((q + 1) % 2000 + 1999 - (k + 1)) % 2000 = (q + 1999 - k) % 2000 := by omega
    rw [e, upd_ne (by omega)]
    exact h4 k (by omega) (by omega)
theorem h_send_b {n : Nat} {g : Nat → Nat} {l : List Nat} (hl : l.length ≤ 8192) : ∀ (m k q : Nat) (i : Nat → Int32) (a : Nat → Nat → Int32) (o : List Nat), l.length = k + m → m < q → i 23 = nI l.length → (∀ k (h : k < l.length), a 28 k = nI (l[k]'h)) → outR (i 19) (i 20) (a 26) o → ∃ i' a', m_Output_send_b2 n g q i a (nI k) = some (i', a', nI 0) ∧ outR (i' 19) (i' 20) (a' 26) ((l.drop k).reverse ++ o) ∧ (∀ z, z ≠ 19 → z ≠ 20 → i' z = i z) ∧ (∀ z, z ≠ 26 → a' z = a z) := by
  intro m
  induction m with
  | zero =>
    intro k q i a o e hq h23 h28 ho
    obtain ⟨q, rfl⟩ : ∃ q', q = q' + 1 := ⟨q - 1, by omega⟩
    refine ⟨i, a, ?_, ?_, fun _ _ _ => rfl, fun _ _ => rfl⟩
    · rw [m_Output_send_b2]
      simp (disch := omega) only [ob_s, ob0_s, ob1_s, i32_lit, ile_p, ile_n, ilt_p, ilt_n, ieq_p, ieq_n, ck_n, cl_n, sub_n, nI_add, sh_w, sh_l, an3_w, an3_l, an1_w, an1_l, hN_1, hN_3w, hN_3l, if_true, if_false, h23]
    · rw [List.drop_eq_nil_of_le (by omega)]
      exact ho
  | succ m ih =>
    intro k q i a o e hq h23 h28 ho
    obtain ⟨q, rfl⟩ : ∃ q', q = q' + 1 := ⟨q - 1, by omega⟩
    have hk : k < l.length := by omega
    obtain ⟨p, p1, p2, p3, p4⟩ := outR_add (c := l[k]) ho
    have hmn : min o.length 2000 ≤ 2000 := Nat.min_le_right _ _
    have hmin : m_Math_min n (nI (min o.length 2000 + 1)) (nI 2000) = some (nI (min (min o.length 2000 + 1) 2000)) := mmin_n (by omega) (by omega)
    obtain ⟨i', a', z1, z2, z3, z4⟩ := ih (k + 1) q (upd (upd i 19 (nI ((p + 1) % 2000))) 20 (nI (min (min o.length 2000 + 1) 2000))) (sv a 26 p (nI l[k])) (l[k] :: o) (by omega) (by omega) h23 h28 p4
    refine ⟨i', a', ?_, ?_, fun z h1 h2 => by rw [z3 z h1 h2, upd_ne h2, upd_ne h1], fun z hz => by rw [z4 z hz]; unfold sv; rw [updA_ne hz]⟩
    · have e28 := h28 k hk
      have e20 : ∀ v, upd i 19 v 20 = nI (min o.length 2000) := fun v => p3
      rw [m_Output_send_b2]
      rcases Nat.lt_or_ge (p + 1) 2000 with h9 | h9
      · have em : (p + 1) % 2000 = p + 1 := Nat.mod_eq_of_lt h9
        rw [em] at z1
        simp (disch := omega) only [ob_s, ob0_s, ob1_s, i32_lit, ile_p, ile_n, ilt_p, ilt_n, ieq_p, ieq_n, ck_n, cl_n, sub_n, nI_add, sh_w, sh_l, an3_w, an3_l, an1_w, an1_l, hN_1, hN_3w, hN_3l, if_true, if_false, h23, p1, e28, m_Output_send_b48, e20, hmin]
        exact z1
      · have em : (p + 1) % 2000 = 0 := by rw [show p + 1 = 2000 by omega]
        rw [em] at z1
        simp (disch := omega) only [ob_s, ob0_s, ob1_s, i32_lit, ile_p, ile_n, ilt_p, ilt_n, ieq_p, ieq_n, ck_n, cl_n, sub_n, nI_add, sh_w, sh_l, an3_w, an3_l, an1_w, an1_l, hN_1, hN_3w, hN_3l, if_true, if_false, h23, p1, e28, m_Output_send_b48, e20, hmin]
        exact z1
    · rw [List.drop_eq_getElem_cons hk, List.reverse_cons, List.append_assoc]
      exact z2
theorem CI_out {g : Nat → Nat} {i i' : Nat → Int32} {a a' : Nat → Nat → Int32} {T : Nat} {G : GS} {N : LN} {F : List Fr} {L : List Lv} {o : List Nat} (h : CI g i a T G N F L) (hi : ∀ z, z ≠ 19 → z ≠ 20 → i' z = i z) (A : ∀ z, z ≠ 26 → a' z = a z) (ho : outR (i' 19) (i' 20) (a' 26) o) : CI g i' a' T (gSetOut G o) N F L := by
  obtain ⟨h1, h2, h3, h4, h5⟩ := h
  unfold CI
  refine ⟨?_, ?_, ?_, ?_, ?_⟩
  · unfold cGen lexOk at *
    rw [hi 8 (by decide) (by decide), hi 4 (by decide) (by decide), hi 5 (by decide) (by decide), hi 6 (by decide) (by decide), A 0 (by decide), A 5 (by decide), A 6 (by decide), A 7 (by decide), A 8 (by decide), A 9 (by decide)]
    exact h1
  · obtain ⟨b1, b2, b3, b4, b5, b6, b7⟩ := h2
    refine ⟨?_, ?_, ?_, ?_, ?_, ho, ?_⟩
    · rw [A 0 (by decide), hi 12 (by decide) (by decide), A 10 (by decide), A 11 (by decide)]; exact b1
    · rw [A 0 (by decide), hi 15 (by decide) (by decide), A 15 (by decide), A 16 (by decide), A 17 (by decide)]; exact b2
    · rw [A 20 (by decide)]; exact b3
    · rw [A 21 (by decide)]; exact b4
    · rw [hi 17 (by decide) (by decide)]; exact b5
    · exact ⟨by rw [hi 45 (by decide) (by decide)]; exact b7.1, kEx_a (a := a) (kEx_i (G := G) b7.2 (fun q hq => hi q (by revert hq; revert q; decide) (by revert hq; revert q; decide))) (fun q hq => A q (by revert hq; revert q; decide))⟩
  · unfold cNum at *
    rw [hi 35 (by decide) (by decide), hi 36 (by decide) (by decide), hi 37 (by decide) (by decide), hi 38 (by decide) (by decide), hi 39 (by decide) (by decide)]
    exact h3
  · rw [A 0 (by decide), hi 13 (by decide) (by decide), A 12 (by decide), A 13 (by decide)]
    exact h4
  · unfold cLev at *
    rw [hi 40 (by decide) (by decide), hi 41 (by decide) (by decide), hi 42 (by decide) (by decide), A 0 (by decide), A 37 (by decide), A 38 (by decide), A 39 (by decide), A 40 (by decide), A 41 (by decide), A 42 (by decide), A 43 (by decide), A 44 (by decide), A 45 (by decide), A 46 (by decide), A 47 (by decide), A 48 (by decide), A 49 (by decide), A 50 (by decide), A 51 (by decide), A 52 (by decide), A 53 (by decide), A 54 (by decide)]
    exact h5
/-- print, show, type -/
theorem h_write {n : Nat} {g : Nat → Nat} {i : Nat → Int32} {a : Nat → Nat → Int32} {T : Nat} {G : GS} {N : LN} {F : List Fr} {L : List Lv} {bare ends : Bool} {v : Tr} {x : Int32} (hn : 300000 ≤ n) (h : CI g i a T G N F L) (hl : lvOk F L (nMade N)) (h44 : i 44 = nI 0) (h43 : i 43 = nI (lvVals L)) (hx : cV (a 0) T v none x) : TK n g T (m_Deeds_write n g i a x (b1 bare) (b1 ends)) (aPrint v bare ends G, N, F, L, 1, none, none) := by
  obtain ⟨a1, a2, a3, a4, a5, a6, a7, a8, a9⟩ := h.1
  have htx : TX (upd i 23 (nI 0)) a [] := ⟨rfl, by decide, fun k hk => absurd hk (Nat.not_lt_zero k)⟩
  obtain ⟨i1, b1', z1, z2, z3, _, z4⟩ := h_shown (n := n) (g := g) (i := upd i 23 (nI 0)) (a := a) (bare := bare) hn a3 a5 htx hx (by decide)
  rw [List.nil_append] at z2
  have ho0 : oF i a (upd i 23 (nI 0)) a := ⟨fun q hq => upd_ne hq, fun _ _ _ _ => rfl⟩
  obtain ⟨i2, c2, w1, w2, w3, w4⟩ : ∃ i2 c2, (if b1 ends = (0 : Int32) then m_Deeds_write_b29 n g i1 b1' else ob (m_Output_add n g i1 b1' (10 : Int32)) (fun i_11 a_12 r_13 => m_Deeds_write_b29 n g i_11 a_12)) = m_Deeds_write_b29 n g i2 c2 ∧ TX i2 c2 (aShow v bare ++ (if ends then [10] else [])) ∧ oF i1 b1' i2 c2 ∧ True := by
    cases ends with
    | false =>
      refine ⟨i1, b1', by rw [if_pos (show b1 false = (0 : Int32) from rfl)], ?_, oF_refl _ _, trivial⟩
      rw [if_neg (by decide), List.append_nil]
      exact z2
    | true =>
      obtain ⟨e1, e2, e3⟩ := h_add (n := n) (g := g) (c := 10) z2 (by omega)
      refine ⟨_, _, ?_, by rw [if_pos rfl]; exact e2, e3, trivial⟩
      rw [if_neg (by decide)]
      show ob (m_Output_add n g i1 b1' (nI 10)) _ = _
      rw [e1, ob_s]
  have hof := oF_trans ho0 (oF_trans z3 w3)
  have hci := CI_oF h hof
  obtain ⟨i3, a3', s1, s2, s3, s4⟩ := h_send_b (n := n) (g := g) w2.2.1 (aShow v bare ++ (if ends then [10] else [])).length 0 n i2 c2 (gOut G) (by omega) (by have := w2.2.1; omega) w2.1 w2.2.2 hci.2.1.2.2.2.2.2.1
  rw [List.drop_zero] at s2
  have hci2 := CI_out hci s3 s4 s2
  have e44 : i3 44 = nI 0 := by rw [s3 44 (by decide) (by decide), hof.1 44 (by decide)]; exact h44
  have e43 : i3 43 = nI (lvVals L) := by rw [s3 43 (by decide) (by decide), hof.1 43 (by decide)]; exact h43
  refine TK_gv (i := i3) (a := a3') (x := -nI 2147483648) (r := .ok none) ?_ (by omega) hci2 hl e44 e43 rfl trivial
  unfold m_Deeds_write m_Output_begin
  rw [ob1_s, ob_s]
  show ob (m_Output_addShown n g (upd i 23 (nI 0)) a x (b1 bare)) _ = _
  rw [z1, ob_s, w1]
  unfold m_Deeds_write_b29 m_Output_send
  rw [show (0 : Int32) = nI 0 from rfl, s1, ob_s]
  rfl
theorem okLs_app {l r : List Nat} (h : okLs l) (h' : okLs r) : okLs (l ++ r) := by
  intro c hc
  rcases List.mem_append.mp hc with hc | hc
  · exact h c hc
  · exact h' c hc
theorem okLs_dig (v : Nat) : ∀ k, okLs (aDig v k) := by
  intro k
  induction k with
  | zero =>
    intro c hc
    have hc : c ∈ [48 + v % 10] := hc
    rw [List.mem_singleton.mp hc]
    omega
  | succ k ih =>
    intro c hc
    have hc : c ∈ (48 + v / 10 ^ (k + 1) % 10) :: aDig v k := hc
    rcases List.mem_cons.mp hc with rfl | hc
    · omega
    · exact ih c hc
theorem okLs_num (z : Int) : okLs (aNumS z) ∧ aNumS z ≠ [] := by
  unfold aNumS
  split
  · refine ⟨?_, List.cons_ne_nil _ _⟩
    intro c hc
    rcases List.mem_cons.mp hc with rfl | hc
    · omega
    · exact okLs_dig _ _ c hc
  · refine ⟨okLs_dig _ _, ?_⟩
    intro e
    have := aDig_len z.natAbs (aUnit z.natAbs)
    rw [e] at this
    simp at this
theorem flat_ok {f : Nat → Int32} {T : Nat} {v : Tr} {x : Int32} (h : cV f T v none x) (hv : isL v = false) : okLs (aSh v 0) ∧ aSh v 0 ≠ [] ∧ aShow v false = aSh v 0 := by
  refine ⟨?_, ?_, ?_⟩
  · rcases cV_cases h with ⟨k, rfl, _⟩ | ⟨w, p, rfl, _, h3⟩ | ⟨ms, p, rfl, _⟩
    · exact (okLs_num k).1
    · rw [aSh_tW]; exact h3.2.2.2.2.1
    · rw [isL_tL] at hv; cases hv
  · rcases cV_cases h with ⟨k, rfl, _⟩ | ⟨w, p, rfl, _, h3⟩ | ⟨ms, p, rfl, _⟩
    · exact (okLs_num k).2
    · rw [aSh_tW]; exact h3.2.1
    · rw [isL_tL] at hv; cases hv
  · unfold aShow
    rw [hv]
    rfl
theorem aJoin_mp (g : GS) (n : LN) (F : List Fr) (L : List Lv) (r : Except Nat (Nat × Tr)) : cMp (retM g n F L r) ≤ mapPot L := by
  cases r with
  | ok q => exact Nat.le_refl _
  | error e => exact (aFail_mp e g n F L).1
theorem h_joinW {n : Nat} {g : Nat → Nat} {i : Nat → Int32} {a : Nat → Nat → Int32} {T : Nat} {G : GS} {N : LN} {F : List Fr} {L : List Lv} {T0 : Nat} {v u : Tr} {x y : Int32} (hn : 300000 ≤ n) (h : CI g i a T G N F L) (hl : lvOk F L (nMade N)) (hNn : nOk N) (h44 : i 44 = nI 0) (h43 : i 43 = nI (lvVals L)) (hr : T + mapPot L ≤ T0 + 3 * nMade N) (hT0 : T0 ≤ 250000) (hx : cV (a 0) T v none x) (hy : cV (a 0) T u none y) (hv : isL v = false) (hu : isL u = false) : TG n g T T0 (m_Deeds_joinLetters n g i a x y) (retM G N F L (aJoin (nMade N) v u)) := by
  obtain ⟨a1, a2, a3, a4, a5, a6, a7, a8, a9⟩ := h.1
  have hmd := hNn.2.2.2.1
  have htx : TX (upd i 23 (nI 0)) a [] := ⟨rfl, by decide, fun k hk => absurd hk (Nat.not_lt_zero k)⟩
  obtain ⟨i1, b1', z1, z2, z3, z4, _⟩ := h_shown (n := n) (g := g) (i := upd i 23 (nI 0)) (a := a) (bare := false) hn a3 a5 htx hx (by decide)
  rw [List.nil_append] at z2
  have z4 := z4 hv
  have ho0 : oF i a (upd i 23 (nI 0)) a := ⟨fun q hq => upd_ne hq, fun _ _ _ _ => rfl⟩
  have hb0 : b1' 0 = a 0 := z3.2 0 (by decide) (by decide) (by decide)
  obtain ⟨i2, c2, w1, w2, w3, w4, _⟩ := h_shown (n := n) (g := g) (i := i1) (a := b1') (bare := false) hn a3 a5 z2 (show cV (b1' 0) T u none y by rw [hb0]; exact hy) (by omega)
  have w4 := w4 hu
  obtain ⟨v1, v2, v3⟩ := flat_ok hx hv
  obtain ⟨u1, u2, u3⟩ := flat_ok hy hu
  rw [v3, u3] at w2
  rw [v3] at z4
  rw [u3] at w4
  obtain ⟨l, hll⟩ : ∃ l, l = aSh v 0 ++ aSh u 0 := ⟨_, rfl⟩
  rw [← hll] at w2
  have hof := oF_trans ho0 (oF_trans z3 w3)
  have hci := CI_oF h hof
  have hokl : okLs l := by rw [hll]; exact okLs_app v1 u1
  have hne : l ≠ [] := by
    rw [hll]
    intro e
    exact v2 (List.append_eq_nil_iff.mp e).1
  have hlen : l.length ≤ 60 := by rw [hll, List.length_append]; omega
  have hlp : 1 ≤ l.length := by
    rcases Nat.eq_zero_or_pos l.length with h0 | h0
    · exact absurd (List.length_eq_zero_iff.mp h0) hne
    · exact h0
  have hnum := h_num_a28 (n := n) (g := g) (i := i2) (a := c2) (p := 0) (l := l) (by omega) hne (by omega) (fun c hc => (hokl c hc).2) (fun k hk => by rw [Nat.zero_add]; exact w2.2.2 k hk)
  rw [Nat.zero_add] at hnum
  have e44 : i2 44 = nI 0 := by rw [hof.1 44 (by decide)]; exact h44
  have e43 : i2 43 = nI (lvVals L) := by rw [hof.1 43 (by decide)]; exact h43
  have e38 := hci.2.2.1.2.2.2.1
  have err : ∀ e, 1 ≤ e → e ≤ 13 → ∀ (i2 : Nat → Int32) (c2 : Nat → Nat → Int32), CI g i2 c2 T G N F L → i2 44 = nI 0 → ∀ o, o = some (i2, c2, g, ((0, 0) : Nat × Nat), -nI (2147483648 - e)) → TG n g T T0 o (aFail e G N F L) := by
    intro e h1 h2 i2 c2 hci e44 o ho
    obtain ⟨i', q1, q2⟩ := h_take_err (n := n) (by omega) hci hl e44 h1 h2
    obtain ⟨m1, m2⟩ := aFail_mp e G N F L
    exact ⟨i2, c2, g, (0, 0), _, i', T, ho, q1, q2, hGrow_refl a5, Nat.le_refl _, by rw [m2]; omega⟩
  have pre : m_Deeds_joinLetters n g i a x y = (if numR (aPar l) = ((-2147483639 : Int32)) then some (i2, c2, g, ((0, 0) : Nat × Nat), numR (aPar l)) else if numR (aPar l) = ((-2147483648 : Int32)) then m_Deeds_joinLetters_b69 n i2 c2 g (nI l.length) (numR (aPar l)) (0 : Int32) else m_Deeds_joinLetters_b69 n i2 c2 g (nI l.length) (numR (aPar l)) (1 : Int32)) := by
    unfold m_Deeds_joinLetters m_Output_begin
    rw [ob1_s, ob_s]
    show ob (m_Output_addShown n g (upd i 23 (nI 0)) a x (b1 false)) _ = _
    rw [z1, ob_s]
    show ob (m_Output_addShown n g i1 b1' y (b1 false)) _ = _
    rw [w1, ob_s, ob1_s, w2.1]
    show ob0 (m_Heap_numberIn_a28 n g i2 c2 (nI 0) (nI l.length)) _ = _
    rw [hnum, ob0_s]
  rw [pre]
  show TG n g T T0 _ (retM G N F L (match aPar (aSh v 0 ++ aSh u 0) with
    | (1, k) => if 30000 < nMade N + (aNumS k).length then .error 8 else .ok (nMade N + (aNumS k).length, tN k)
    | (0, _) => if 30 < (aSh v 0 ++ aSh u 0).length ∨ 30000 < nMade N + (aSh v 0 ++ aSh u 0).length then .error 8 else .ok (nMade N + (aSh v 0 ++ aSh u 0).length, tW (aSh v 0 ++ aSh u 0))
    | _ => .error 9))
  rw [← hll]
  rcases aPar_cases l with e | e | ⟨k, e, k1, k2⟩
  · -- a word
    rw [e]
    have en : numR (0, 0) = -nI 2147483648 := rfl
    rw [en, if_neg (by decide), if_pos (show -nI 2147483648 = (-2147483648 : Int32) from rfl)]
    unfold m_Deeds_joinLetters_b69
    rw [if_pos rfl]
    unfold m_Deeds_joinLetters_b101
    show TG n g T T0 _ (retM G N F L (if 30 < l.length ∨ 30000 < nMade N + l.length then .error 8 else .ok (nMade N + l.length, tW l)))
    rcases Classical.em (30 < l.length ∨ 30000 < nMade N + l.length) with hb | hb
    · rw [if_pos hb]
      refine err 8 (by decide) (by decide) i2 c2 hci e44 _ ?_
      rcases Nat.lt_or_ge 30 l.length with h9 | h9
      · simp (disch := omega) only [ob_s, ob0_s, ob1_s, i32_lit, ile_p, ile_n, ilt_p, ilt_n, ieq_p, ieq_n, ck_n, cl_n, sub_n, nI_add, sh_w, sh_l, an3_w, an3_l, an1_w, an1_l, hN_1, hN_3w, hN_3l, if_true, if_false]
      · have h8 : 30000 < nMade N + l.length := by omega
        simp (disch := omega) only [ob_s, ob0_s, ob1_s, i32_lit, ile_p, ile_n, ilt_p, ilt_n, ieq_p, ieq_n, ck_n, cl_n, sub_n, nI_add, sh_w, sh_l, an3_w, an3_l, an1_w, an1_l, hN_1, hN_3w, hN_3l, if_true, if_false, e38]
    · rw [if_neg hb]
      have hl30 : l.length ≤ 30 := by omega
      have hm3 : nMade N + l.length ≤ 30000 := by omega
      obtain ⟨f, g', kk, n1, n2, n3, n4, n5⟩ := h_newWord_a28 (n := n) (g := g) (i := i2) (a := c2) (T := T) (p := 0) (l := l) hci.1.2.2.2.2.2.1 (by omega) hci.1.1 a3 ⟨by omega, hci.1.2.1.2⟩ (by omega) a4 a5 hne hl30 hokl (by omega) (fun k hk => by rw [Nat.zero_add]; exact w2.2.2 k hk)
      have hci2 : CI g (upd i2 38 (nI (nMade N + l.length))) c2 T G (nSetMade N (nMade N + l.length)) F L := by
        obtain ⟨b1, b2, b3, b4, b5⟩ := hci
        exact ⟨b1, b2, ⟨b3.1, b3.2.1, b3.2.2.1, rfl, b3.2.2.2.2⟩, b4, b5⟩
      have hgr := CI_grow (T' := T + l.length + 2) hci2 (by omega) n2 n4 n5.1 n5.2.1
      have hT3 : T + l.length + 2 ≤ 340000 := by omega
      have hno := cV_no hT3 n3
      obtain ⟨i', q1, q2⟩ := h_take (n := n) (r := .ok (some (tW l))) (by omega) hgr (lvOk_mono hl (by show nMade N ≤ nMade N + l.length; omega)) e44 e43 n3 trivial
      have ec : upd (upd i2 8 (nI (T + l.length + 2))) 38 (nI (nMade N + l.length)) = upd (upd i2 38 (nI (nMade N + l.length))) 8 (nI (T + l.length + 2)) := upd_comm (by decide)
      refine ⟨upd (upd i2 38 (nI (nMade N + l.length))) 8 (nI (T + l.length + 2)), updA c2 0 f, g', (kk.1 + 0, kk.2 + 0), nI (4 * (T + 1) + 3), i', T + l.length + 2, ?_, q1, q2, by rw [Nat.add_zero, Nat.add_zero]; exact n5, by omega, ?_⟩
      · simp (disch := omega) only [ob_s, ob0_s, ob1_s, i32_lit, ile_p, ile_n, ilt_p, ilt_n, ieq_p, ieq_n, ck_n, cl_n, sub_n, nI_add, sh_w, sh_l, an3_w, an3_l, an1_w, an1_l, hN_1, hN_3w, hN_3l, if_true, if_false, e38, n1]
        refine obG_s (k' := (0, 0)) ?_
        unfold m_Deeds_joinLetters_b148
        have e39 : upd i2 8 (nI (T + l.length + 2)) 38 = nI (nMade N) := e38
        simp (disch := omega) only [ob_s, ob0_s, ob1_s, i32_lit, ile_p, ile_n, ilt_p, ilt_n, ieq_p, ieq_n, ck_n, cl_n, sub_n, nI_add, sh_w, sh_l, an3_w, an3_l, an1_w, an1_l, hN_1, hN_3w, hN_3l, if_true, if_false, hno, e39, ec]
      · show T + l.length + 2 + mapPot L ≤ T0 + 3 * (nMade N + l.length)
        omega
  · rw [e]
    have en : numR (2, 0) = -nI 2147483639 := rfl
    rw [en, if_pos (show -nI 2147483639 = (-2147483639 : Int32) from rfl)]
    exact err 9 (by decide) (by decide) i2 c2 hci e44 _ rfl
  · -- a number
    rw [e]
    have en : numR (1, k) = hN k := rfl
    have hkv : cV (a 0) T (tN k) none (hN k) := cV_tN.mpr ⟨k1, k2, rfl⟩
    have hno := cV_no (by omega) hkv
    have hno2 : ¬ hN k = (-2147483639 : Int32) := by
      intro e9
      have := cV_ne (by omega) hkv
      rw [e9] at this
      exact absurd this (by decide)
    have hno3 : ¬ hN k = (-2147483648 : Int32) := hno
    rw [en, if_neg hno2, if_neg hno3]
    have htx2 : TX (upd i2 23 (nI 0)) c2 [] := ⟨rfl, by decide, fun k hk => absurd hk (Nat.not_lt_zero k)⟩
    have hc0 : c2 0 = a 0 := hof.2 0 (by decide) (by decide) (by decide)
    obtain ⟨i3, d3, s1, s2, s3, s4, _⟩ := h_shown (n := n) (g := g) (i := upd i2 23 (nI 0)) (a := c2) (bare := false) hn a3 a5 htx2 (show cV (c2 0) T (tN k) none (hN k) by rw [hc0]; exact hkv) (by decide)
    rw [List.nil_append] at s2
    have s2 : TX i3 d3 (aNumS k) := s2
    have hof2 : oF i2 c2 i3 d3 := oF_trans ⟨fun q hq => upd_ne hq, fun _ _ _ _ => rfl⟩ s3
    have hci3 := CI_oF hci hof2
    have e443 : i3 44 = nI 0 := by rw [hof2.1 44 (by decide)]; exact e44
    have e433 : i3 43 = nI (lvVals L) := by rw [hof2.1 43 (by decide)]; exact e43
    have e383 := hci3.2.2.1.2.2.2.1
    have hnl := aNumS_len k
    unfold m_Deeds_joinLetters_b69 m_Output_begin
    rw [if_neg (by decide), ob1_s, ob_s]
    have s1 : m_Output_addShown n g (upd i2 23 0) c2 (hN k) 0 = some (i3, d3, nI 0) := s1
    rw [s1, ob_s, ob1_s, s2.1]
    unfold m_Deeds_joinLetters_b101
    show TG n g T T0 _ (retM G N F L (if 30000 < nMade N + (aNumS k).length then .error 8 else .ok (nMade N + (aNumS k).length, tN k)))
    rcases Classical.em (30000 < nMade N + (aNumS k).length) with hb | hb
    · rw [if_pos hb]
      refine err 8 (by decide) (by decide) i3 d3 hci3 e443 _ ?_
      simp (disch := omega) only [ob_s, ob0_s, ob1_s, i32_lit, ile_p, ile_n, ilt_p, ilt_n, ieq_p, ieq_n, ck_n, cl_n, sub_n, nI_add, sh_w, sh_l, an3_w, an3_l, an1_w, an1_l, hN_1, hN_3w, hN_3l, if_true, if_false, e383]
    · rw [if_neg hb]
      have hci2 : CI g (upd i3 38 (nI (nMade N + (aNumS k).length))) d3 T G (nSetMade N (nMade N + (aNumS k).length)) F L := by
        obtain ⟨b1, b2, b3, b4, b5⟩ := hci3
        exact ⟨b1, b2, ⟨b3.1, b3.2.1, b3.2.2.1, rfl, b3.2.2.2.2⟩, b4, b5⟩
      obtain ⟨i', q1, q2⟩ := h_take (n := n) (r := .ok (some (tN k))) (by omega) hci2 (lvOk_mono hl (by show nMade N ≤ nMade N + (aNumS k).length; omega)) e443 e433 (cV_tN.mpr ⟨k1, k2, rfl⟩ : cV (d3 0) T (tN k) none (hN k)) trivial
      refine ⟨upd i3 38 (nI (nMade N + (aNumS k).length)), d3, g, (0, 0), hN k, i', T, ?_, q1, q2, hGrow_refl a5, Nat.le_refl _, ?_⟩
      · unfold m_Deeds_joinLetters_b148
        simp (disch := omega) only [ob_s, ob0_s, ob1_s, i32_lit, ile_p, ile_n, ilt_p, ilt_n, ieq_p, ieq_n, ck_n, cl_n, sub_n, nI_add, sh_w, sh_l, an3_w, an3_l, an1_w, an1_l, hN_1, hN_3w, hN_3l, if_true, if_false, e383, hno]
      · show T + mapPot L ≤ T0 + 3 * (nMade N + (aNumS k).length)
        omega

