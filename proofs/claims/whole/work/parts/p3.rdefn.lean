/-! the reference reads what is told: brackets, numbers, words within brackets -/
theorem r_fail {n : Nat} {i : Nat → Int32} {j : Nat → Int64} {a : Nat → Nat → Int32} {b : Nat → Nat → Int64} {v p : Int32} (h : i 75 = 0) : m_Model_fail n i j a b v p = some (upd (upd i 75 v) 76 p, j, a, b, 0) := by
  unfold m_Model_fail
  rw [if_pos h, ob1_s, ob1_s]
theorem BAD_of {i0 : Nat → Int32} {a0 : Nat → Nat → Int32} {b0 : Nat → Nat → Int64} {B0 : RB4} {i : Nat → Int32} {a : Nat → Nat → Int32} {b : Nat → Nat → Int64} {i' : Nat → Int32} {a' : Nat → Nat → Int32} {b' : Nat → Nat → Int64} {B : RB4} {r : Rd} (h : SF i0 a0 b0 B0 i a b B) (hB : B.1 ≤ 120000 ∧ B.2.1 ≤ 300000 ∧ B.2.2.1 ≤ 90000 ∧ B.2.2.2 ≤ 90000) (hi : ∀ q, q ∉ scI → i' q = i q) (ha : ∀ q, q ∉ scR → a' q = a q) (hb : ∀ q, q ≠ 80 → b' q = b q) (h75 : i' 75 = nI (rdF r)) (h76 : i' 76 = nI (rdP r)) (hf : 1 ≤ rdF r ∧ rdF r ≤ 11) : BAD i0 a0 b0 B0 r i' a' b' := ⟨⟨B, SF_trans h (SF_rows hB hi ha hb)⟩, h75, h76, hf⟩
def DN (i0 : Nat → Int32) (a0 : Nat → Nat → Int32) (b0 : Nat → Nat → Int64) (B0 : RB4) (E : Nat) (r : Rd) (i : Nat → Int32) (a : Nat → Nat → Int32) (b : Nat → Nat → Int64) (B : RB4) (T : Nat → Tr) (mt : Nat → Nat) (vl : Nat → Bool) (S : List Nat) (lo : Nat) : Prop := SF i0 a0 b0 B0 i a b B ∧ BD B0 B r.2.2.1 E ∧ CO i a b B T mt vl r.2.2.1 ∧ R82 a S ∧ DD i a B T mt vl lo r.2.2.1 r.1 r.2.2.2.2.2.2.1 r.2.2.2.1 r.2.2.2.2.1 (rdI r)
def DO (X : Option ((Nat → Int32) × (Nat → Int64) × (Nat → Nat → Int32) × (Nat → Nat → Int64) × Int32)) (j : Nat → Int64) (i0 : Nat → Int32) (a0 : Nat → Nat → Int32) (b0 : Nat → Nat → Int64) (B0 : RB4) (E : Nat) (r : Rd) (T : Nat → Tr) (mt : Nat → Nat) (vl : Nat → Bool) (S : List Nat) (lo : Nat) : Prop := ∃ i' a' b' B', X = some (i', j, a', b', 0) ∧ ((rdF r ≠ 0 ∧ BAD i0 a0 b0 B0 r i' a' b') ∨ (rdF r = 0 ∧ DN i0 a0 b0 B0 E r i' a' b' B' T mt vl S lo))
/-- only i 84 .. 86 and rows 87 .. 91 change -/
theorem CO_rows {i : Nat → Int32} {a : Nat → Nat → Int32} {b : Nat → Nat → Int64} {i' : Nat → Int32} {a' : Nat → Nat → Int32} {B : RB4} {T : Nat → Tr} {mt : Nat → Nat} {vl : Nat → Bool} {tok : Nat} (h : CO i a b B T mt vl tok) (hi : ∀ q, q ≠ 84 → q ≠ 85 → q ≠ 86 → i' q = i q) (ha : ∀ q, (q < 87 ∨ 91 < q) → a' q = a q) : CO i' a' b B T mt vl tok ∧ SF i a b B i' a' b B ∧ rUp a b B a' b B := by
  obtain ⟨c1, c2, c3, c4, c5, c6⟩ := h
  have hsf : SF i a b B i' a' b B := SF_rows c1.2.2.2.2 (fun q hq => hi q (fun e => hq (by rw [e]; decide)) (fun e => hq (by rw [e]; decide)) (fun e => hq (by rw [e]; decide))) (fun q hq => ha q (by
    rcases (by omega : (q < 87 ∨ 91 < q) ∨ q = 87 ∨ q = 88 ∨ q = 89 ∨ q = 90 ∨ q = 91) with c | c | c | c | c | c
    · exact c
    all_goals exact absurd (by rw [c]; decide) hq)) (fun _ _ => rfl)
  refine ⟨⟨rB_sc c1 (hi 18 (by decide) (by decide) (by decide)) (hi 19 (by decide) (by decide) (by decide)) (hi 20 (by decide) (by decide) (by decide)) (hi 21 (by decide) (by decide) (by decide)), rC1_SF c2 hsf, (hi 75 (by decide) (by decide) (by decide)).trans c3, (hi 81 (by decide) (by decide) (by decide)).trans c4, c5, fun x hx => ⟨TOK_up (c6 x hx).1 hsf.2.2.2.1 (by rw [ha 79 (by decide)]) rfl, (c6 x hx).2⟩⟩, hsf, hsf.2.2.2.1⟩
/-- no word, or one within brackets -/
theorem r_flag0 {n tok d : Nat} {i : Nat → Int32} {j : Nat → Int64} {a : Nat → Nat → Int32} {b : Nat → Nat → Int64} {B : RB4} (ht : tok < 601) (h : b 80 tok = 3 ∨ (∃ v, rV a b B v none (b 80 tok) ∧ isW v = false) ∨ (∃ v, rV a b B v none (b 80 tok) ∧ 0 < d ∧ d ≤ 20)) : m_Model_definition n i j a b (nI tok) (nI d) = m_Model_definition_b52 n i j a b (nI tok) 0 0 := by
  have e0 : m_Model_definition_b33 n i j a b (nI tok) = m_Model_definition_b52 n i j a b (nI tok) 0 0 := by
    unfold m_Model_definition_b33 m_Model_definition_b34
    rw [if_pos rfl]
  unfold m_Model_definition
  rw [ck_n (by omega), cl_n (by omega)]
  rcases h with h | ⟨v, h, hw⟩ | ⟨v, h, hd⟩
  · rw [h, show m_Model_isWord n 3 = some 0 from rfl, ob0_s, if_pos rfl, e0]
  · rw [(r_kinds n h).2.1, hw, ob0_s, if_pos (show b1 false = (0 : Int32) from rfl), e0]
  · rw [(r_kinds n h).2.1, ob0_s]
    cases isW v with
    | false => rw [if_pos (show b1 false = (0 : Int32) from rfl), e0]
    | true => rw [if_neg (by decide), ck_n (by omega), if_neg (rV_ne3c h), if_neg (show ¬ nI d = (0 : Int32) from fun e => by have := (nI_eq (b := 0) (by omega) (by decide)).mp e; omega), e0]
theorem r_flag1 {n tok w : Nat} {l : List Nat} {i : Nat → Int32} {j : Nat → Int64} {a : Nat → Nat → Int32} {b : Nat → Nat → Int64} {B : RB4} (ht : tok < 601) (h : b 80 tok = vW w) (hw : rW a B w l) : m_Model_definition n i j a b (nI tok) 0 = m_Model_definition_b52 n i j a b (nI tok) 1 (nI w) := by
  have hv : rV a b B (tW l) none (b 80 tok) := by rw [h]; exact rV_word hw
  unfold m_Model_definition
  rw [ck_n (by omega), cl_n (by omega), (r_kinds n hv).2.1, isW_tW, ob0_s, if_neg (by decide), ck_n (by omega), if_neg (rV_ne3c hv), if_pos rfl]
  unfold m_Model_definition_b34
  rw [if_neg (by decide), ck_n (by omega), cl_n (by omega), h, r_whatW (by have := hw.1; have := hw.2.1; omega), ob0_s]
/-- the body begins, if it has not -/
theorem r_b321 {n tok st fr lo : Nat} {v3 v4 : Int32} {D : List Proc} {cw : Nm} {ins : List Nm} {i : Nat → Int32} {j : Nat → Int64} {a : Nat → Nat → Int32} {b : Nat → Nat → Int64} {B : RB4} {T : Nat → Tr} {mt : Nat → Nat} {vl : Nat → Bool} (hB : B.1 ≤ 120000 ∧ B.2.1 ≤ 300000 ∧ B.2.2.1 ≤ 90000 ∧ B.2.2.2 ≤ 90000) (h : DD i a B T mt vl lo tok st fr D cw ins) (ht : tok ≤ 600) (hst : st = 2 ∨ st = 3) : ∃ i' a', m_Model_definition_b321 n i j a b (nI tok) v3 v4 = m_Model_definition_b344 n i' j a' b (nI tok) v3 v4 ∧ (∀ q, q ≠ 84 → i' q = i q) ∧ (∀ q, q ≠ 90 → a' q = a q) ∧ DD i' a' B T mt vl (if st = 2 then tok else lo) tok 3 fr D cw ins := by
  obtain ⟨⟨h1, h2, h3⟩, h4, h5, h6, h7, h8⟩ := id h
  unfold m_Model_definition_b321
  rw [h1]
  rcases hst with e | e
  · subst e
    rw [if_pos (show nI 2 = (2 : Int32) from rfl), h3, ck_n (by omega), ob1_s, cl_n (by omega), ob1_s, if_pos (show (2 : Nat) = 2 from rfl)]
    refine ⟨_, _, rfl, fun q hq => upd_ne hq, fun q hq => sv_row hq, ⟨upd_at, (upd_ne (by decide)).trans h2, (upd_ne (by decide)).trans h3⟩, by omega, ⟨Nat.le_refl _, by rw [SL_congr (a := a) _ (fun x hx => ⟨sv_ne (by omega), by rw [sv_row (by decide)]⟩)]; omega⟩, fun x hx => ?_, fun _ => ?_, fun _ => sv_at⟩
    · exact DF1_up (b := b) (b' := b) (h6 x hx) (rUp_same ⟨sv_row (by decide), sv_row (by decide), sv_row (by decide), sv_row (by decide), sv_row (by decide), sv_row (by decide), rfl⟩ hB) h5.1 ⟨by rw [sv_row (by decide)], by rw [sv_row (by decide)], sv_ne (by omega), by rw [sv_row (by decide)]⟩ (fun q _ => by rw [sv_row (by decide)]) (fun _ _ => ⟨rfl, rfl, rfl⟩)
    · obtain ⟨⟨⟨y, k1, k2⟩, k3⟩, k4⟩ := h7 (Nat.le_refl _)
      have hu : rUp a b B (sv a 90 D.length (nI tok)) b B := rUp_same ⟨sv_row (by decide), sv_row (by decide), sv_row (by decide), sv_row (by decide), sv_row (by decide), sv_row (by decide), rfl⟩ hB
      exact ⟨⟨⟨y, by rw [sv_row (by decide)]; exact k1, rW_up hu k2⟩, k3⟩, INS_up k4 hu (by rw [sv_row (by decide)]) (fun q _ => by rw [sv_row (by decide)])⟩
  · subst e
    rw [if_neg (by decide), if_neg (by decide)]
    exact ⟨i, a, rfl, fun _ _ => rfl, fun _ _ => rfl, ⟨h1, h2, h3⟩, by omega, h5, h6, h7, h8⟩
theorem r_st0 {n tok fr lo : Nat} {v3 s0 : Int32} {D : List Proc} {cw : Nm} {ins : List Nm} {i : Nat → Int32} {j : Nat → Int64} {a : Nat → Nat → Int32} {b : Nat → Nat → Int64} {B : RB4} {T : Nat → Tr} {mt : Nat → Nat} {vl : Nat → Bool} (h : DD i a B T mt vl lo tok 0 fr D cw ins) (ht : tok ≤ 600) : m_Model_definition_b52 n i j a b (nI tok) v3 s0 = m_Model_definition_b70 n i j a b (nI tok) v3 s0 := by
  obtain ⟨⟨h1, h2, h3⟩, h4, _⟩ := h
  unfold m_Model_definition_b52
  rw [if_pos (show i 84 = 0 from h1)]
  rcases Classical.em (tok = 0) with e | e
  · subst e
    have : upd i 86 0 = i := by
      funext q
      rcases Classical.em (q = 86) with c | c
      · subst c; rw [upd_at, h3, show D.length = 0 by omega]; rfl
      · exact upd_ne c
    rw [if_pos (show nI 0 = (0 : Int32) from rfl), ob1_s, this]
  · rw [if_neg (show ¬ nI tok = (0 : Int32) from fun e2 => by have := (nI_eq (b := 0) (by omega) (by decide)).mp e2; omega)]
/-- what is no word (at the outmost level) -/
theorem r_b52n {n k E st tok fr fp lo : Nat} {K : List (List Tr)} {D : List Proc} {cw : Nm} {ci : List Nm} {i0 : Nat → Int32} {a0 : Nat → Nat → Int32} {b0 : Nat → Nat → Int64} {B0 : RB4} {i : Nat → Int32} {j : Nat → Int64} {a : Nat → Nat → Int32} {b : Nat → Nat → Int64} {B : RB4} {T : Nat → Tr} {mt : Nat → Nat} {vl : Nat → Bool} {S : List Nat} {r' : Rd} (h : SM true i0 a0 b0 B0 k E (st, K, tok, D, cw, ci, fr, 0, fp) i a b B T mt vl S lo) (hst : st ≤ 3)
    (h0 : st = 0 → r' = rdBad 7 k r') (h1 : st = 1 → r' = rdBad 8 k r') (h2 : 2 ≤ st → rdF r' = 0 ∧ r'.1 = 3 ∧ r'.2.2.1 = tok + 1 ∧ r'.2.2.2.1 = D ∧ r'.2.2.2.2.1 = cw ∧ r'.2.2.2.2.2.1 = rdI (st, K, tok, D, cw, ci, fr, 0, fp) ∧ r'.2.2.2.2.2.2.1 = fr) : DO (m_Model_definition_b52 n i j a b (nI tok) 0 0) j i0 a0 b0 B0 E r' T mt vl S (loC (st, K, tok, D, cw, ci, fr, 0, fp) lo) := by
  obtain ⟨⟨hF, hbd, hCO⟩, ⟨h82, hS⟩, h77, hD, _⟩ := h
  have hD := hD rfl
  dsimp only at hbd hCO h77 hD
  have hB := hCO.1.2.2.2.2
  have htok : tok < 600 := by have := hCO.2.2.2.2.1; omega
  rcases (by omega : st = 0 ∨ st = 1 ∨ (st = 2 ∨ st = 3)) with e | e | e
  · subst e
    have hr := h0 rfl
    rw [r_st0 hD (by omega)]
    unfold m_Model_definition_b70 m_Model_definition_b86 m_Model_definition_b98
    rw [if_pos rfl, ck_n (by omega), cl_n (by omega), h77, r_fail hCO.2.2.1, om_s, ob1_s]
    refine ⟨_, _, _, B, rfl, Or.inl ⟨by rw [hr]; show ¬ 7 = 0; decide, BAD_of hF hB (fun q hq => by rw [upd_ne (fun e => hq (by rw [e]; decide)), upd_ne (fun e => hq (by rw [e]; decide)), upd_ne (fun e => hq (by rw [e]; decide))]) (fun _ _ => rfl) (fun _ _ => rfl) (by rw [hr, upd_ne (by decide), upd_ne (by decide), upd_at]; rfl) (by rw [hr, upd_ne (by decide), upd_at]; rfl) (by rw [hr]; show 1 ≤ 7 ∧ 7 ≤ 11; decide)⟩⟩
  · subst e
    have hr := h1 rfl
    unfold m_Model_definition_b52
    rw [hD.1.1, if_neg (by decide), if_pos (by decide), if_pos rfl]
    unfold m_Model_definition_b127
    rw [ck_n (by omega), cl_n (by omega), h77, r_fail hCO.2.2.1, om_s]
    refine ⟨_, _, _, B, rfl, Or.inl ⟨by rw [hr]; show ¬ 8 = 0; decide, BAD_of hF hB (fun q hq => by rw [upd_ne (fun e => hq (by rw [e]; decide)), upd_ne (fun e => hq (by rw [e]; decide))]) (fun _ _ => rfl) (fun _ _ => rfl) (by rw [hr, upd_ne (by decide), upd_at]; rfl) (by rw [hr, upd_at]; rfl) (by rw [hr]; show 1 ≤ 8 ∧ 8 ≤ 11; decide)⟩⟩
  · obtain ⟨q1, q2, q3, q4, q5, q6, q7⟩ := h2 (by omega)
    have e52 : m_Model_definition_b52 n i j a b (nI tok) 0 0 = m_Model_definition_b321 n i j a b (nI tok) 0 0 := by
      unfold m_Model_definition_b52
      rw [hD.1.1]
      rcases e with e | e
      · subst e; rw [if_neg (by decide), if_neg (by decide), if_pos (by decide), if_pos rfl]
      · subst e; rw [if_neg (by decide), if_neg (by decide), if_neg (by decide)]
    obtain ⟨i', a', f1, f2, f3, f4⟩ := r_b321 (n := n) (j := j) (b := b) (v3 := 0) (v4 := 0) hB hD (by omega) e
    obtain ⟨g1, g2, g3⟩ := CO_rows (b := b) (i' := i') (a' := a') hCO (fun q w1 _ _ => f2 q w1) (fun q hq => f3 q (by omega))
    rw [e52, f1]
    unfold m_Model_definition_b344
    rw [if_pos rfl]
    refine ⟨i', a', b, B, rfl, Or.inr ⟨q1, SF_trans hF g2, ?_, ?_, R82_up S h82 (fun q _ => by rw [f3 82 (by decide)]), ?_⟩⟩
    · rw [q3]; exact ⟨by omega, hbd.2.1, hbd.2.2⟩
    · rw [q3]; exact g1
    · rw [q2, q3, q4, q5, q7]
      have : rdI r' = rdI (st, K, tok, D, cw, ci, fr, 0, fp) := by
        rw [← q6]
        show (if r'.1 = 2 then _ else _) = _
        rw [if_neg (by omega)]
      rw [this]
      obtain ⟨d1, d2, d3, d4⟩ := f4
      exact ⟨d1, by omega, ⟨by show (if st = 2 then tok else lo) ≤ tok + 1; omega, d3.2⟩, d4⟩

