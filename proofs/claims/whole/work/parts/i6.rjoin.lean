/-! words that the reference joins -/
theorem rC_same {a a' : Nat → Nat → Int32} {b b' : Nat → Nat → Int64} {B : RB4} (hs : rSame a a' b b') (h7 : a' 7 = a 7) (h9 : b' 9 = b 9) (hB : B.1 ≤ 120000 ∧ B.2.1 ≤ 300000 ∧ B.2.2.1 ≤ 90000 ∧ B.2.2.2 ≤ 90000) (h : rC a b B) : rC a' b' B := by
  have hu := rUp_same hs hB
  refine ⟨fun x hx => ?_, ?_⟩
  · obtain ⟨l, hl⟩ := h.1 x hx
    exact ⟨l, rK_up hu (by rw [h7]) (by rw [h9]) hl⟩
  · rw [phi_congr (a := a) (b := b) B.1 (fun x _ => ⟨by rw [hs.2.2.1], by rw [h9]⟩)]
    exact h.2
theorem rC_word {a : Nat → Nat → Int32} {b : Nat → Nat → Int64} {B : RB4} {p : Nat} {l : List Nat} {r : Nat → Int32} (hB : B.1 < 120000 ∧ B.2.1 ≤ 300000 ∧ B.2.2.1 ≤ 90000 ∧ B.2.2.2 ≤ 90000) (hL : B.2.1 + l.length ≤ 300000) (hr : ∀ x, x < B.2.1 → r x = a 1 x) (h0 : l ≠ []) (h30 : l.length ≤ 30) (hok : okLs l) (hp : p + l.length ≤ B.2.1 + l.length) (hl : ∀ k (h : k < l.length), r (p + k) = nI (l[k]'h)) (h : rC a b B) :
    rUp a b B (wrA (updA a 1 r) B.1 p l.length) (svl b 9 B.1 3) (B.1 + 1, B.2.1 + l.length, B.2.2.1, B.2.2.2) ∧ rW (wrA (updA a 1 r) B.1 p l.length) (B.1 + 1, B.2.1 + l.length, B.2.2.1, B.2.2.2) B.1 l ∧ rC (wrA (updA a 1 r) B.1 p l.length) (svl b 9 B.1 3) (B.1 + 1, B.2.1 + l.length, B.2.2.1, B.2.2.2) := by
  have hu := rUp_word (a := a) (b := b) (B := B) (p := p) (l := l.length) (Lt := B.2.1 + l.length) (r := r) hB ⟨by omega, hL⟩ hr
  have hw : rW (wrA (updA a 1 r) B.1 p l.length) (B.1 + 1, B.2.1 + l.length, B.2.2.1, B.2.2.2) B.1 l := rW_new hB.1 hL h0 h30 hok hp (fun k hk => hl k hk)
  have hlen : 1 ≤ l.length := List.length_pos_iff.mpr h0
  refine ⟨hu, hw, fun x hx => ?_, ?_⟩
  · have hx : x < B.1 + 1 := hx
    rcases Nat.lt_or_ge x B.1 with c | c
    · obtain ⟨l', hl'⟩ := h.1 x c
      exact ⟨l', rK_up hu (by show upd (a 7) B.1 0 x = _; rw [upd_ne (by omega)]) (by show vp_updL (b 9) B.1 3 x = _; rw [updL_ne (by omega)]) hl'⟩
    · have ex : x = B.1 := by omega
      subst ex
      exact ⟨l, hw, Or.inl (by show upd (a 7) B.1 0 B.1 = 0; rw [upd_at]), Or.inl (by show vp_updL (b 9) B.1 3 B.1 = 3; rw [updL_at])⟩
  · show phi _ _ B.1 + (1 + if vp_updL (b 9) B.1 3 B.1 = 3 then (upd (a 4) B.1 (nI l.length) B.1).toNatClampNeg - 1 else 0) ≤ B.2.1 + l.length
    rw [updL_at, if_pos rfl, upd_at, cl_n (by omega), phi_congr (a := a) (b := b) B.1 (fun y hy => ⟨by show upd (a 4) B.1 _ y = _; rw [upd_ne (by omega)], by show vp_updL (b 9) B.1 3 y = _; rw [updL_ne (by omega)]⟩)]
    have := h.2
    omega
set_option maxRecDepth 20000 in
theorem fit8 : ∀ c, c < 128 → fits .byte (.int (nI c)) = true := by decide +kernel
theorem cyb_n {δ : Type} {f : Nat → Int32} {l : List Nat} {k : Option δ} (hl : l.length ≤ 40000) (h : ∀ x (h : x < l.length), f x = nI (l[x]'h)) (hc : ∀ c ∈ l, c ≤ 126) : cyb f (nI 0) (nI l.length) k = k := by
  unfold cyb
  rw [if_pos]
  rw [List.all_eq_true]
  intro x hx
  rw [cl_n (by omega), List.mem_range] at hx
  rw [cl_n (by omega), Nat.zero_add, h x hx]
  have := hc _ (List.getElem_mem hx)
  exact fit8 _ (by omega)
theorem r_flat_ok {a : Nat → Nat → Int32} {b : Nat → Nat → Int64} {B : RB4} {t : Tr} {v : Int64} (h : rV a b B t none v) (hl : isL t = false) : okLs (aSh t 0) ∧ aSh t 0 ≠ [] ∧ (aSh t 0).length ≤ 30 := by
  rcases rV_cases h with ⟨k, rfl, _⟩ | ⟨l, w, rfl, _, h3⟩ | ⟨ms, l, p, rfl, _⟩
  · have := aNumS_len k
    exact ⟨(okLs_num k).1, (okLs_num k).2, by show (aNumS k).length ≤ 30; omega⟩
  · rw [aSh_tW]
    exact ⟨h3.2.2.2.2.2.1, h3.2.2.2.1, h3.2.2.2.2.1⟩
  · rw [isL_tL] at hl; cases hl
theorem oS_same {i i' : Nat → Int32} {a a' : Nat → Nat → Int32} {b : Nat → Nat → Int64} (h : oS i a i' a') : rSame a a' b b := ⟨h.2 1 (by decide), h.2 3 (by decide), h.2 4 (by decide), h.2 12 (by decide), h.2 13 (by decide), h.2 14 (by decide), rfl⟩
theorem r_joined {n : Nat} {i : Nat → Int32} {j : Nat → Int64} {a : Nat → Nat → Int32} {b : Nat → Nat → Int64} {B : RB4} {made : Nat} {t u : Tr} {x y : Int64} (hn : 1000 ≤ n) (hi : rB i B) (hC : rC a b B) (h96 : i 96 = nI made) (hm : made ≤ 30000) (ht : rV a b B t none x) (hu : rV a b B u none y) (hlt : isL t = false) (hlu : isL u = false) (hW : B.1 < 120000) (hLt : B.2.1 + 60 ≤ 300000) :
    ∃ i' a' b' B' v, m_Model_joined n i j a b x y = some (i', j, a', b', v) ∧ rUp a b B a' b' B' ∧ rB i' B' ∧ rC a' b' B' ∧ (B'.1 ≤ B.1 + 1 ∧ (B'.2.1 = B.2.1 ∨ ∃ m' w, aJoin made t u = .ok (m', w) ∧ B'.2.1 + made ≤ B.2.1 + m') ∧ B'.2.2 = B.2.2) ∧ (∀ q, q ≠ 1 → q ≠ 3 → q ≠ 4 → q ≠ 7 → q ≠ 24 → a' q = a q) ∧ (∀ q, q ≠ 9 → b' q = b q) ∧
      ((∃ e, aJoin made t u = .error e ∧ v = 3 ∧ i' 102 = 2 ∧ i' 126 = nI e ∧ ∀ q, q ≠ 25 → q ≠ 28 → q ≠ 102 → q ≠ 126 → i' q = i q) ∨
       (∃ m' w, aJoin made t u = .ok (m', w) ∧ rV a' b' B' w none v ∧ i' 96 = nI m' ∧ ∀ q, q ≠ 18 → q ≠ 19 → q ≠ 25 → q ≠ 28 → q ≠ 96 → i' q = i q)) := by
  obtain ⟨j1, j2, j3, j4, j5, j6, j7, j8⟩ := id hi
  have hB : B.1 ≤ 120000 ∧ B.2.1 ≤ 300000 ∧ B.2.2.1 ≤ 90000 ∧ B.2.2.2 ≤ 90000 := ⟨j5, j6, j7, j8⟩
  obtain ⟨_, _, kt⟩ := r_kinds n ht
  obtain ⟨_, _, ku⟩ := r_kinds n hu
  obtain ⟨o1, o2, o3⟩ := r_flat_ok ht hlt
  obtain ⟨o4, o5, o6⟩ := r_flat_ok hu hlu
  have hok := okLs_app o1 o4
  have h0 : TR (upd i 25 0) a [] := ⟨upd_at, fun k h => absurd h (Nat.not_lt_zero k)⟩
  have ho0 : oS i a (upd i 25 0) a := ⟨fun q hq => upd_ne hq, fun _ _ => rfl⟩
  obtain ⟨i1, a1, s1, s2, s3⟩ := r_sayFlat (n := n) (j := j) (l := []) hn ht hlt h0 (by decide)
  rw [List.nil_append] at s2
  obtain ⟨i2, a2, s4, s5, s6⟩ := r_sayFlat (n := n) (j := j) (l := aSh t 0) hn (rV_oR (oS_oR s3) hB hu) hlu s2 (by omega)
  have hS : oS i a i2 a2 := oS_trans ho0 (oS_trans s3 s6)
  have hlen : (aSh t 0 ++ aSh u 0).length ≤ 60 := by rw [List.length_append]; omega
  have ea : aJoin made t u = match aPar (aSh t 0 ++ aSh u 0) with
    | (1, k) => if 30000 < made + (aNumS k).length then .error 8 else .ok (made + (aNumS k).length, tN k)
    | (0, _) => if 30 < (aSh t 0 ++ aSh u 0).length ∨ 30000 < made + (aSh t 0 ++ aSh u 0).length then .error 8 else .ok (made + (aSh t 0 ++ aSh u 0).length, tW (aSh t 0 ++ aSh u 0))
    | _ => .error 9 := rfl
  have hne : aSh t 0 ++ aSh u 0 ≠ [] := fun e => o2 (List.append_eq_nil_iff.mp e).1
  generalize aSh t 0 ++ aSh u 0 = l at s5 hlen ea hok hne
  obtain ⟨i3, n1, n2, n3⟩ := r_num_v24 (n := n) (i := i2) (j := j) (b := b) (p := 0) (l := l) (by omega) (by omega) (by omega) (fun c hc => (hok c hc).2) (fun k hk => by rw [Nat.zero_add]; exact s5.2 k hk)
  have hs2 : rSame a a2 b b := oS_same hS
  have hu2 : rUp a b B a2 b B := rUp_same hs2 hB
  have hC2 : rC a2 b B := rC_same hs2 (hS.2 7 (by decide)) rfl hB hC
  have q3 : ∀ q, q ≠ 25 → q ≠ 28 → i3 q = i q := fun q h1 h2 => (n2 q h2).trans (hS.1 q h1)
  have i25 : i3 25 = nI l.length := (n2 25 (by decide)).trans s5.1
  have hi3 : rB i3 B := ⟨(q3 19 (by decide) (by decide)).trans j1, (q3 18 (by decide) (by decide)).trans j2, (q3 21 (by decide) (by decide)).trans j3, (q3 20 (by decide) (by decide)).trans j4, hB⟩
  have hfail : ∀ (i4 : Nat → Int32) (a4 : Nat → Nat → Int32) (e : Nat), (∀ q, q ≠ 25 → q ≠ 28 → i4 q = i q) → rSame a a4 b b → a4 7 = a 7 → (∀ q, q ≠ 24 → a4 q = a q) → aJoin made t u = .error e → ∃ i' a' b' B' v, (some (rFail i4 e, j, a4, b, (3 : Int64)) : Option ((Nat → Int32) × (Nat → Int64) × (Nat → Nat → Int32) × (Nat → Nat → Int64) × Int64)) = some (i', j, a', b', v) ∧ rUp a b B a' b' B' ∧ rB i' B' ∧ rC a' b' B' ∧ (B'.1 ≤ B.1 + 1 ∧ (B'.2.1 = B.2.1 ∨ ∃ m' w, aJoin made t u = .ok (m', w) ∧ B'.2.1 + made ≤ B.2.1 + m') ∧ B'.2.2 = B.2.2) ∧ (∀ q, q ≠ 1 → q ≠ 3 → q ≠ 4 → q ≠ 7 → q ≠ 24 → a' q = a q) ∧ (∀ q, q ≠ 9 → b' q = b q) ∧
      ((∃ e, aJoin made t u = .error e ∧ v = 3 ∧ i' 102 = 2 ∧ i' 126 = nI e ∧ ∀ q, q ≠ 25 → q ≠ 28 → q ≠ 102 → q ≠ 126 → i' q = i q) ∨
       (∃ m' w, aJoin made t u = .ok (m', w) ∧ rV a' b' B' w none v ∧ i' 96 = nI m' ∧ ∀ q, q ≠ 18 → q ≠ 19 → q ≠ 25 → q ≠ 28 → q ≠ 96 → i' q = i q)) := fun i4 a4 e h1 h2 h3 h4 h5 =>
    ⟨rFail i4 e, a4, b, B, 3, rfl, rUp_same h2 hB, ⟨(h1 19 (by decide) (by decide)).trans j1, (h1 18 (by decide) (by decide)).trans j2, (h1 21 (by decide) (by decide)).trans j3, (h1 20 (by decide) (by decide)).trans j4, hB⟩, rC_same h2 h3 rfl hB hC, ⟨by omega, Or.inl rfl, rfl⟩, fun q _ _ _ _ k => h4 q k, fun _ _ => rfl, Or.inl ⟨e, h5, rfl, rfl, rfl, fun q k1 k2 k3 k4 => by unfold rFail; rw [upd_ne k4, upd_ne k3]; exact h1 q k1 k2⟩⟩
  unfold m_Model_joined
  rw [kt, ob0_s, hlt, b1_f, if_pos (show nI 0 = (0 : Int32) from rfl), ku, ob0_s, hlu, b1_f, if_pos (show nI 0 = (0 : Int32) from rfl), ob1_s, s1, om_s, s4, om_s, s5.1, show (0 : Int32) = nI 0 from rfl, n1, om_s]
  rcases aPar_cases l with e | e | ⟨k, e, k1, k2⟩
  · rw [e] at ea ⊢
    have ea : aJoin made t u = if 30 < l.length ∨ 30000 < made + l.length then .error 8 else .ok (made + l.length, tW l) := ea
    rw [show nI ((0, 0) : Nat × Int).1 = nI 0 from rfl, if_neg (show ¬ nI 0 = (2 : Int32) by decide), ob1_s, if_neg (show ¬ nI 0 = (1 : Int32) by decide), i25, show (30 : Int32) = nI 30 from rfl]
    rcases Nat.lt_or_ge 30 l.length with c | c
    · rw [ile_n (by omega), show (8 : Int32) = nI 8 from rfl, r_fails, om_s]
      exact hfail i3 a2 8 q3 hs2 (hS.2 7 (by decide)) hS.2 (by rw [ea, if_pos (Or.inl c)])
    · rw [ile_p (by omega), r_makes ((q3 96 (by decide) (by decide)).trans h96) hm (by omega)]
      rcases Nat.lt_or_ge 30000 (made + l.length) with d | d
      · rw [if_pos d, om_s, if_pos (show (0 : Int32) = nI 0 from rfl)]
        exact hfail i3 a2 8 q3 hs2 (hS.2 7 (by decide)) hS.2 (by rw [ea, if_pos (Or.inr d)])
      · have hr0 : ∀ x, x < B.2.1 → va_cpy (a2 24) (a2 1) 0 B.2.1 l.length x = a2 1 x := fun x hx => va_out (by omega)
        obtain ⟨g1, g2, g3⟩ := rC_word (a := a2) (b := b) (B := B) (p := B.2.1) (l := l) (r := va_cpy (a2 24) (a2 1) 0 B.2.1 l.length) ⟨hW, j6, j7, j8⟩ (by omega) hr0 hne c hok (Nat.le_refl _) (fun k hk => by rw [va_in (by omega) (by omega), Nat.zero_add, Nat.add_sub_cancel_left]; exact s5.2 k hk) hC2
        have e18 : upd i3 96 (nI (made + l.length)) 18 = nI B.2.1 := (upd_ne (by decide)).trans hi3.2.1
        have e19 : upd i3 96 (nI (made + l.length)) 19 = nI B.1 := (upd_ne (by decide)).trans hi3.1
        have e25 : upd i3 96 (nI (made + l.length)) 25 = nI l.length := (upd_ne (by decide)).trans i25
        rw [if_neg (show ¬ 30000 < made + l.length by omega), om_s, if_neg (show ¬ (1 : Int32) = nI 0 by decide), e18, e25, cy_n (by omega), cyb_n (by omega) s5.2 (fun c hc => (hok c hc).2), ob1_s, cl_n (by omega), cl_n (by omega), cl_n (by omega), r_newWord e19 hW, om_s, r_wordValue (by omega), ob0_s, ob1_s, ob1_s]
        have f18 : upd (upd i3 96 (nI (made + l.length))) 19 (nI (B.1 + 1)) 18 = nI B.2.1 := (upd_ne (by decide)).trans e18
        have f25 : upd (upd i3 96 (nI (made + l.length))) 19 (nI (B.1 + 1)) 25 = nI l.length := (upd_ne (by decide)).trans e25
        rw [f18, f25, nI_add]
        refine ⟨_, _, _, (B.1 + 1, B.2.1 + l.length, B.2.2.1, B.2.2.2), _, rfl, rUp_trans hu2 g1, ⟨?_, upd_at, ?_, ?_, by show B.1 + 1 ≤ 120000; omega, by show B.2.1 + l.length ≤ 300000; omega, j7, j8⟩, g3, ⟨Nat.le_refl _, Or.inr ⟨made + l.length, tW l, by rw [ea, if_neg (by omega)], by show B.2.1 + l.length + made ≤ B.2.1 + (made + l.length); omega⟩, rfl⟩, fun q q1 q2 q4 q7 q24 => ?_, fun q hq => updB_ne hq, Or.inr ⟨made + l.length, tW l, by rw [ea, if_neg (by omega)], rV_tW.mpr ⟨B.1, rfl, g2⟩, ?_, fun q p1 p2 p3 p4 p5 => ?_⟩⟩
        · rw [upd_ne (by decide), upd_at]
        · rw [upd_ne (by decide), upd_ne (by decide), upd_ne (by decide)]; exact hi3.2.2.1
        · rw [upd_ne (by decide), upd_ne (by decide), upd_ne (by decide)]; exact hi3.2.2.2.1
        · unfold wrA sv
          rw [updA_ne q7, updA_ne q4, updA_ne q2, updA_ne q1]
          exact hS.2 q q24
        · rw [upd_ne (by decide), upd_ne (by decide), upd_at]
        · rw [upd_ne p1, upd_ne p2, upd_ne p5]
          exact q3 q p3 p4
  · rw [e] at ea ⊢
    rw [show nI ((2, 0) : Nat × Int).1 = (2 : Int32) from rfl, if_pos rfl, show (9 : Int32) = nI 9 from rfl, r_fails, om_s]
    exact hfail i3 a2 9 q3 hs2 (hS.2 7 (by decide)) hS.2 ea
  · rw [e] at ea n3 ⊢
    have ea : aJoin made t u = if 30000 < made + (aNumS k).length then .error 8 else .ok (made + (aNumS k).length, tN k) := ea
    have hnl := aNumS_len k
    obtain ⟨i4, a4, y1, y2, y3⟩ := r_sayNumber (n := n) (i := upd i3 25 (nI 0)) (j := j) (a := a2) (b := b) (l := []) hn k1 k2 ⟨upd_at, fun k h => absurd h (Nat.not_lt_zero k)⟩ (by decide)
    rw [List.nil_append] at y2
    have hS4 : ∀ q, q ≠ 24 → a4 q = a q := fun q hq => (y3.2 q hq).trans (hS.2 q hq)
    have q4 : ∀ q, q ≠ 25 → q ≠ 28 → i4 q = i q := fun q h1 h2 => (y3.1 q h1).trans ((upd_ne h1).trans (q3 q h1 h2))
    have hs4 : rSame a a4 b b := ⟨hS4 1 (by decide), hS4 3 (by decide), hS4 4 (by decide), hS4 12 (by decide), hS4 13 (by decide), hS4 14 (by decide), rfl⟩
    rw [show nI ((1, k) : Nat × Int).1 = nI 1 from rfl, if_neg (show ¬ nI 1 = (2 : Int32) by decide), ob1_s, n3 rfl, if_pos (show nI 1 = (1 : Int32) from rfl), ob1_s, y1, om_s, y2.1, r_makes ((q4 96 (by decide) (by decide)).trans h96) hm (by omega)]
    rcases Nat.lt_or_ge 30000 (made + (aNumS k).length) with d | d
    · rw [if_pos d, om_s, if_pos (show (0 : Int32) = nI 0 from rfl)]
      exact hfail i4 a4 8 q4 hs4 (hS4 7 (by decide)) hS4 (by rw [ea, if_pos d])
    · rw [if_neg (show ¬ 30000 < made + (aNumS k).length by omega), om_s, if_neg (show ¬ (1 : Int32) = nI 0 by decide), r_number k1 k2, ob0_s]
      refine ⟨_, _, _, B, _, rfl, rUp_same hs4 hB, ⟨?_, ?_, ?_, ?_, hB⟩, rC_same hs4 (hS4 7 (by decide)) rfl hB hC, ⟨by omega, Or.inl rfl, rfl⟩, fun q _ _ _ _ h => hS4 q h, fun _ _ => rfl, Or.inr ⟨made + (aNumS k).length, tN k, by rw [ea, if_neg (by omega)], rV_tN.mpr ⟨k1, k2, rfl⟩, upd_at, fun q _ _ p3 p4 p5 => (upd_ne p5).trans (q4 q p3 p4)⟩⟩
      · exact (upd_ne (by decide)).trans ((q4 19 (by decide) (by decide)).trans j1)
      · exact (upd_ne (by decide)).trans ((q4 18 (by decide) (by decide)).trans j2)
      · exact (upd_ne (by decide)).trans ((q4 21 (by decide) (by decide)).trans j3)
      · exact (upd_ne (by decide)).trans ((q4 20 (by decide) (by decide)).trans j4)

