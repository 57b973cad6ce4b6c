/-! the reference reads what is told: a word at the outmost level -/
theorem lex84 (l : List Nat) : aLex l = 84 ↔ l = [116, 111] := by
  constructor
  · intro h
    rcases lexC l with q | q | ⟨q, _⟩ | q | q | ⟨s, s1, s2, s3⟩ | q | q | q
    · rw [lex_34 q] at h; omega
    · rw [lex_58 q] at h; omega
    · have := lex_pW q; omega
    · rw [q] at h; exact absurd h (by decide)
    · rw [q] at h; exact absurd h (by decide)
    · omega
    · exact q
    · rw [q] at h; exact absurd h (by decide)
    · omega
  · intro h; rw [h]; decide
theorem lex85 (l : List Nat) : aLex l = 85 ↔ l = [101, 110, 100] := by
  constructor
  · intro h
    rcases lexC l with q | q | ⟨q, _⟩ | q | q | ⟨s, s1, s2, s3⟩ | q | q | q
    · rw [lex_34 q] at h; omega
    · rw [lex_58 q] at h; omega
    · have := lex_pW q; omega
    · rw [q] at h; exact absurd h (by decide)
    · rw [q] at h; exact absurd h (by decide)
    · omega
    · rw [q] at h; exact absurd h (by decide)
    · exact q
    · omega
  · intro h; rw [h]; decide
theorem lex87 (c : Nat) (l : List Nat) : aLex (c :: l) = 87 ↔ c = 58 := ⟨aLex_58, fun h => lex_58 (by rw [h]; rfl)⟩
theorem aMean_tW (l : List Nat) (h : l ≠ []) : aMean (tW l) = aLex l := by
  unfold aMean
  rw [isW_tW, if_pos rfl, tLet_tW]
theorem rC1_at {a : Nat → Nat → Int32} {b : Nat → Nat → Int64} {B : RB4} {x : Nat} {l : List Nat} (h : rC1 a b B) (hw : rW a B x l) : rK a b B x l := by
  obtain ⟨r, h1⟩ := h x hw.1
  have := rW_fun hw h1.1
  subst this
  exact h1
/-- row 7 at a new word -/
theorem SM_7 {k E : Nat} {dfn : Bool} {i0 : Nat → Int32} {a0 : Nat → Nat → Int32} {b0 : Nat → Nat → Int64} {B0 : RB4} {r : Rd} {i : Nat → Int32} {a : Nat → Nat → Int32} {b : Nat → Nat → Int64} {a' : Nat → Nat → Int32} {B : RB4} {T : Nat → Tr} {mt : Nat → Nat} {vl : Nat → Bool} {S : List Nat} {lo w : Nat} {l : List Nat} (h : SM dfn i0 a0 b0 B0 k E r i a b B T mt vl S lo) (hw : rW a B w l) (hle : B0.1 ≤ w) (h1 : ∀ q, q ≠ 7 → a' q = a q) (h2 : ∀ y, y ≠ w → a' 7 y = a 7 y) (h3 : rPm a' w l) : SM dfn i0 a0 b0 B0 k E r i a' b B T mt vl S lo ∧ rUp a b B a' b B := by
  obtain ⟨⟨hF, hbd, c1, c2, c3, c4, c5, c6⟩, ⟨h82, hS⟩, h77, hD, hN⟩ := h
  have hu : rUp a b B a' b B := rUp_same ⟨h1 1 (by decide), h1 3 (by decide), h1 4 (by decide), h1 12 (by decide), h1 13 (by decide), h1 14 (by decide), rfl⟩ c1.2.2.2.2
  refine ⟨⟨⟨⟨hF.1, fun q hq => (h1 q (fun e => hq (by rw [e]; decide))).trans (hF.2.1 q hq), hF.2.2.1, rUp_trans hF.2.2.2.1 hu, fun x hx => ⟨(h2 x (by omega)).trans (hF.2.2.2.2 x hx).1, (hF.2.2.2.2 x hx).2⟩⟩, hbd, c1, fun x hx => ?_, c3, c4, c5, fun x hx => ⟨TOK_up (c6 x hx).1 hu (by rw [h1 79 (by decide)]) rfl, (c6 x hx).2⟩⟩, ⟨R82_up S h82 (fun q _ => by rw [h1 82 (by decide)]), hS⟩, by rw [h1 77 (by decide)]; exact h77, fun e => DD_up (hD e) hu ⟨rfl, rfl, rfl⟩ (Nat.le_refl _) (fun q q1 q2 => h1 q (by omega)) (fun _ _ => ⟨rfl, rfl, rfl⟩), hN⟩, hu⟩
  rcases Classical.em (x = w) with e | e
  · subst e
    have hk := rC1_at c2 hw
    refine ⟨l, rW_up hu hw, h3, ?_⟩
    rcases hk.2.2 with q | ⟨t, q1, q2⟩
    · exact Or.inl q
    · exact Or.inr ⟨t, q1, (rV_up hu _).1 _ q2⟩
  · obtain ⟨l', hl'⟩ := c2 x hx
    exact ⟨l', rK_up hu (h2 x e) rfl hl'⟩
/-- is it new among those told just now -/
theorem r_d160 {n tok w lo : Nat} {l : List Nat} {D : List Proc} {i : Nat → Int32} {j : Nat → Int64} {a : Nat → Nat → Int32} {b : Nat → Nat → Int64} {B : RB4} {T : Nat → Tr} {mt : Nat → Nat} {vl : Nat → Bool} (hn : 100 ≤ n) (hw : rW a B w l) (h86 : i 86 = nI D.length) (hD3 : D.length ≤ 200) (hD : ∀ x (h : x < D.length), DF1 a B T mt vl lo x (D[x]'h)) : ∀ (m x f : Nat) (fl : Bool), x + m = D.length → m < f → ∃ f', m_Model_definition_b160 n f i j a b (nI tok) (nI w) (b1 fl) (nI x) = m_Model_definition_b160 n (f' + 1) i j a b (nI tok) (nI w) (b1 (fl && (D.drop x).all (fun p => decide (p.1 ≠ l)))) (nI D.length) := by
  intro m
  induction m with
  | zero =>
    intro x f fl e hf
    obtain ⟨f, rfl⟩ : ∃ f', f = f' + 1 := ⟨f - 1, by omega⟩
    have : x = D.length := by omega
    subst this
    rw [List.drop_length, List.all_nil, Bool.and_true]
    exact ⟨f, rfl⟩
  | succ m ih =>
    intro x f fl e hf
    obtain ⟨f, rfl⟩ : ∃ f', f = f' + 1 := ⟨f - 1, by omega⟩
    have hx : x < D.length := by omega
    rw [List.drop_eq_getElem_cons hx, List.all_cons]
    have hs : m_Model_definition_b160 n (f + 1) i j a b (nI tok) (nI w) (b1 fl) (nI x) = m_Model_definition_b160 n f i j a b (nI tok) (nI w) (b1 (fl && decide (D[x].1 ≠ l))) (nI (x + 1)) := by
      rw [m_Model_definition_b160, h86, ile_n (by omega)]
      unfold m_Model_definition_b194 m_Model_definition_b195
      cases fl with
      | false => rw [if_pos (show b1 false = (0 : Int32) from rfl), ob1_s, show nI x + (1 : Int32) = nI (x + 1) from nI_add _ 1, Bool.false_and]; rfl
      | true =>
        obtain ⟨⟨⟨y, k1, k2⟩, k3⟩, _⟩ := hD x hx
        rw [if_neg (show ¬ b1 true = (0 : Int32) by decide), ck_n (by omega), cl_n (by omega), k1, r_sameWord hn k2 hw, ob0_s, Bool.true_and]
        rcases Classical.em (D[x].1 = l) with c | c
        · rw [decide_eq_true c, if_neg (by decide), ob1_s, show nI x + (1 : Int32) = nI (x + 1) from nI_add _ 1, decide_eq_false (fun q => q c)]; rfl
        · rw [decide_eq_false c, if_pos (show b1 false = (0 : Int32) from rfl), ob1_s, show nI x + (1 : Int32) = nI (x + 1) from nI_add _ 1, decide_eq_true c]; rfl
    rw [hs]
    obtain ⟨f', q⟩ := ih (x + 1) f (fl && decide (D[x].1 ≠ l)) (by omega) (by omega)
    rw [q, Bool.and_assoc]
    exact ⟨f', rfl⟩
theorem aNew_b (P D : List Proc) (l : Nm) : ((pFind P l).isNone && D.all (fun p => decide (p.1 ≠ l))) = aNew P D l := by
  unfold aNew
  rw [Bool.and_comm]
  congr 1
  rcases Classical.em (∀ p ∈ D, p.1 ≠ l) with h | h
  · rw [show dec (∀ p ∈ D, p.1 ≠ l) = true from dec_t h, List.all_eq_true]
    intro p hp
    exact decide_eq_true (h p hp)
  · rw [show dec (∀ p ∈ D, p.1 ≠ l) = false from dec_f h]
    cases hq : D.all (fun p => decide (p.1 ≠ l)) with
    | false => rfl
    | true =>
      rw [List.all_eq_true] at hq
      exact absurd (fun p hp => of_decide_eq_true (hq p hp)) h
/-- to -/
theorem r_dw0 {n : Nat} {k E st tok fr fp lo : Nat} {K : List (List Tr)} {D : List Proc} {cw : Nm} {ci : List Nm} {P : List Proc} {w : Nat} {l : List Nat} {i0 : Nat → Int32} {a0 : Nat → Nat → Int32} {b0 : Nat → Nat → Int64} {B0 : RB4} {i : Nat → Int32} {j : Nat → Int64} {a : Nat → Nat → Int32} {b : Nat → Nat → Int64} {B : RB4} {T : Nat → Tr} {mt : Nat → Nat} {vl : Nat → Bool} {S : List Nat} (hn : 1000 ≤ n) (h : SM true i0 a0 b0 B0 k E (st, K, tok, D, cw, ci, fr, 0, fp) i a b B T mt vl S lo) (hw : rW a B w l) (hst : st = 0) (hK : K = [[]]) : DO (m_Model_definition_b52 n i j a b (nI tok) 1 (nI w)) j i0 a0 b0 B0 E (aPlain true P k (tW l) (st, K, tok + 1, D, cw, ci, fr, 0, fp)) T mt vl S lo ∧ (aPlain true P k (tW l) (st, K, tok + 1, D, cw, ci, fr, 0, fp)).1 ≤ 1 := by
  obtain ⟨⟨hF, hbd, hCO⟩, ⟨h82, hS⟩, h77, hD, _⟩ := h
  have hD := hD rfl
  dsimp only at hbd hCO h77 hD
  have hB := hCO.1.2.2.2.2
  have htok : tok < 600 := by have := hCO.2.2.2.2.1; omega
  subst hst
  unfold aPlain
  dsimp only
  rw [if_pos rfl, r_st0 hD (by omega), aMean_tW l hw.2.2.2.1]
  unfold m_Model_definition_b70 m_Model_definition_b86 m_Model_definition_b98
  rw [if_neg (by decide), r_isText (by omega) hw tx9, ob0_s]
  rcases Classical.em (l = [116, 111]) with c | c
  · rw [decide_eq_true c, if_neg (by decide), ob1_s, if_pos ((lex84 l).mpr c)]
    obtain ⟨g1, g2, g3⟩ := CO_rows (b := b) (i' := upd i 84 1) (a' := a) hCO (fun q w1 _ _ => upd_ne w1) (fun _ _ => rfl)
    obtain ⟨⟨d1, d2, d3⟩, d4, d5, d6, d7, d8⟩ := hD
    refine ⟨⟨_, _, _, B, rfl, Or.inr ⟨rfl, SF_trans hF g2, ⟨by show B.1 ≤ B0.1 + 2 * (tok + 1); omega, hbd.2.1, hbd.2.2⟩, g1, h82, ⟨upd_at, (upd_ne (by decide)).trans d2, (upd_ne (by decide)).trans d3⟩, by show 3 * D.length + min 1 2 ≤ tok + 1; omega, ⟨by show lo ≤ tok + 1; omega, d5.2⟩, d6, fun e => absurd (show 2 ≤ 1 from e) (by decide), fun e => absurd (show 1 = 3 from e) (by decide)⟩⟩, Nat.le_refl 1⟩
  · rw [decide_eq_false c, if_pos (show b1 false = (0 : Int32) from rfl), if_neg (fun e => c ((lex84 l).mp e)), ck_n (by omega), cl_n (by omega), h77, r_fail hCO.2.2.1, om_s, ob1_s]
    exact ⟨⟨_, _, _, B, rfl, Or.inl ⟨by show ¬ 7 = 0; decide, BAD_of hF hB (fun q hq => by rw [upd_ne (fun e => hq (by rw [e]; decide)), upd_ne (fun e => hq (by rw [e]; decide)), upd_ne (fun e => hq (by rw [e]; decide))]) (fun _ _ => rfl) (fun _ _ => rfl) (by rw [upd_ne (by decide), upd_ne (by decide), upd_at]; rfl) (by rw [upd_ne (by decide), upd_at]; rfl) (by show 1 ≤ 7 ∧ 7 ≤ 11; decide)⟩⟩, Nat.zero_le 1⟩
/-- a name -/
theorem r_dw1 {n : Nat} {k E st tok fr fp lo : Nat} {K : List (List Tr)} {D : List Proc} {cw : Nm} {ci : List Nm} {P : List Proc} {w : Nat} {l : List Nat} {i0 : Nat → Int32} {a0 : Nat → Nat → Int32} {b0 : Nat → Nat → Int64} {B0 : RB4} {i : Nat → Int32} {j : Nat → Int64} {a : Nat → Nat → Int32} {b : Nat → Nat → Int64} {B : RB4} {T : Nat → Tr} {mt : Nat → Nat} {vl : Nat → Bool} {S : List Nat} (hn : 1000 ≤ n) (h : SM true i0 a0 b0 B0 k E (st, K, tok, D, cw, ci, fr, 0, fp) i a b B T mt vl S lo) (hP : rPr i0 a0 b0 B0 P) (hr : RI true P k (st, K, tok, D, cw, ci, fr, 0, fp)) (hw : rW a B w l) (hle : B0.1 ≤ w) (hst : st = 1) : DO (m_Model_definition_b52 n i j a b (nI tok) 1 (nI w)) j i0 a0 b0 B0 E (aPlain true P k (tW l) (st, K, tok + 1, D, cw, ci, fr, 0, fp)) T mt vl S lo ∧ (aPlain true P k (tW l) (st, K, tok + 1, D, cw, ci, fr, 0, fp)).1 ≤ 2 := by
  subst hst
  have hfr : P.length + fr ≤ 40 := hr.2.2.2.2.2.2.2.2.2.2.2
  have hk7 : rPm a w l := (rC1_at h.1.2.2.2.1 hw).2.1
  obtain ⟨a', e1, e2, e3, e4⟩ := r_isName (n := n) (i := i) (j := j) (b := b) hn hw hk7
  obtain ⟨h', hu⟩ := SM_7 h hw hle e2 e3 e4
  have h0 : i 84 = nI 1 := (h.2.2.2.1 rfl).1.1
  obtain ⟨⟨hF, hbd, hCO⟩, ⟨h82, hS⟩, h77, hD, _⟩ := h'
  have hD := hD rfl
  dsimp only at hbd hCO h77 hD
  have hB := hCO.1.2.2.2.2
  have htok : tok < 600 := by have := hCO.2.2.2.2.1; omega
  have hw' := rW_up hu hw
  have hP' : rPr i a' b B P := rPr_up hF.2.2.2.1 (hF.1 33 (by decide)) (fun m _ => ⟨by rw [hF.2.1 29 (by decide)], by rw [hF.2.1 30 (by decide)], by rw [hF.2.2.1 32 (by decide) (by decide)]⟩) (fun m _ => by rw [hF.2.1 31 (by decide)]) hP
  unfold aPlain
  dsimp only
  rw [if_neg (by decide), if_pos rfl]
  unfold aName
  dsimp only
  unfold m_Model_definition_b52
  rw [h0, if_neg (by decide), if_pos (by decide), if_neg (by decide), e1, om_s, isW_tW, tLet_tW]
  rcases Classical.em (aLex l = 0) with c | c
  rotate_left
  · rw [decide_eq_false c, if_pos (show b1 false = (0 : Int32) from rfl), if_pos (Or.inr c)]
    unfold m_Model_definition_b127
    rw [ck_n (by omega), cl_n (by omega), h77, r_fail hCO.2.2.1, om_s]
    exact ⟨⟨_, _, _, B, rfl, Or.inl ⟨by show ¬ 8 = 0; decide, BAD_of hF hB (fun q hq => by rw [upd_ne (fun e => hq (by rw [e]; decide)), upd_ne (fun e => hq (by rw [e]; decide))]) (fun _ _ => rfl) (fun _ _ => rfl) (by rw [upd_ne (by decide), upd_at]; rfl) (by rw [upd_at]; rfl) (by show 1 ≤ 8 ∧ 8 ≤ 11; decide)⟩⟩, by show 1 ≤ 2; decide⟩
  obtain ⟨pv, pe, pb⟩ : ∃ pv, m_Model_procedureOf n i j a' b (nI w) = some pv ∧ (pv = (-1 : Int32) ↔ (pFind P l).isNone = true) := by
    have hq := r_procedureOf (n := n) (j := j) (by omega) hw' hP'
    cases hp : pFind P l with
    | none => rw [hp] at hq; exact ⟨_, hq, (fun _ => rfl), fun _ => rfl⟩
    | some s =>
      rw [hp] at hq
      have := (pFind_at P l s hp).1
      have hP2 := hP.2.1
      exact ⟨_, hq, (fun e => by
        have e : nI s = (-1 : Int32) := e
        rw [nI_ofInt, show (-1 : Int32) = Int32.ofInt (-1) from by decide] at e
        have := congrArg Int32.toInt e
        rw [Int32.toInt_ofInt_of_le (by show -2147483648 ≤ _; omega) (by show _ < 2147483648; omega), Int32.toInt_ofInt_of_le (by decide) (by decide)] at this
        omega), (fun e => by cases e)⟩
  rw [decide_eq_true c, if_neg (by decide), if_neg (fun q => q.elim (fun q => by cases q) (fun q => q c)), pe, ob0_s]
  obtain ⟨⟨d1, d2, d3⟩, d4, d5, d6, d7, d8⟩ := hD
  have hs0 : (if pv = (-1 : Int32) then m_Model_definition_b155 n i j a' b (nI tok) (nI w) 1 else m_Model_definition_b155 n i j a' b (nI tok) (nI w) 0) = m_Model_definition_b155 n i j a' b (nI tok) (nI w) (b1 (pFind P l).isNone) := by
    cases hz : (pFind P l).isNone with
    | true => rw [if_pos (pb.mpr hz)]; rfl
    | false => rw [if_neg (fun e => by rw [pb.mp e] at hz; cases hz)]; rfl
  rw [hs0]
  unfold m_Model_definition_b155
  obtain ⟨f', q⟩ := r_d160 (n := n) (tok := tok) (i := i) (j := j) (b := b) (by omega) hw' d3 (by omega) d6 D.length 0 n (pFind P l).isNone (by omega) (by omega)
  have q0 : m_Model_definition_b160 n n i j a' b (nI tok) (nI w) (b1 (pFind P l).isNone) 0 = _ := q
  rw [q0, List.drop_zero, aNew_b, m_Model_definition_b160, d3, ile_p (by omega), hP'.1, d2, nI_add]
  have fin : ∀ (fl : Nat) (i2 : Nat → Int32), fl ≤ 1 → (∀ q, q ≠ 75 → q ≠ 76 → i2 q = i q) → m_Model_definition_b249 n i2 j a' b (nI w) (nI fl) (nI fr) = some (upd (upd i2 85 (nI (fr + fl))) 84 2, j, sv (sv a' 87 D.length (nI w)) 88 D.length 0, b, 0) := by
    intro fl i2 hfl hi2
    unfold m_Model_definition_b249
    rw [ob1_s, nI_add, ob1_s, upd_ne (by decide), hi2 86 (by decide) (by decide), d3, ck_n (by omega), ob1_s, cl_n (by omega), ck_n (by omega), ob1_s, ob1_s]
  have rowF : ∀ q, q ∉ scR → sv (sv a' 87 D.length (nI w)) 88 D.length 0 q = a' q := fun q hq => by rw [sv_row (fun e => hq (by rw [e]; decide)), sv_row (fun e => hq (by rw [e]; decide))]
  have okc : ∀ (fl : Nat), fl ≤ 1 → DN i0 a0 b0 B0 E (2, [[]], tok + 1, D, l, [], fr + fl, 0, 0) (upd (upd i 85 (nI (fr + fl))) 84 2) (sv (sv a' 87 D.length (nI w)) 88 D.length 0) b B T mt vl S lo := by
    intro fl hfl
    obtain ⟨g1, g2, g3⟩ := CO_rows (b := b) (i' := upd (upd i 85 (nI (fr + fl))) 84 2) (a' := sv (sv a' 87 D.length (nI w)) 88 D.length 0) hCO (fun q w1 w2 _ => by rw [upd_ne w1, upd_ne w2]) (fun q hq => by rw [sv_row (by omega), sv_row (by omega)])
    refine ⟨SF_trans hF g2, ⟨by show B.1 ≤ B0.1 + 2 * (tok + 1); omega, hbd.2.1, hbd.2.2⟩, g1, R82_up S h82 (fun q _ => by rw [sv_row (by decide), sv_row (by decide)]), ⟨upd_at, by rw [upd_ne (by decide), upd_at], by rw [upd_ne (by decide), upd_ne (by decide)]; exact d3⟩, by show 3 * D.length + min 2 2 ≤ tok + 1; omega, ⟨by show lo ≤ tok + 1; omega, by rw [SL_congr (a := a') _ (fun x _ => ⟨by rw [sv_row (by decide), sv_row (by decide)], by rw [sv_row (by decide), sv_row (by decide)]⟩)]; exact d5.2⟩, fun x hx => DF1_up (d6 x hx) g3 (Nat.le_refl _) ⟨by rw [sv_row (by decide), sv_ne (by have : x < D.length := hx; omega)], by rw [sv_ne (by have : x < D.length := hx; omega), sv_row (by decide)], by rw [sv_row (by decide), sv_row (by decide)], by rw [sv_row (by decide), sv_row (by decide)]⟩ (fun q _ => by rw [sv_row (by decide), sv_row (by decide)]) (fun _ _ => ⟨rfl, rfl, rfl⟩), fun _ => ⟨⟨⟨w, by rw [sv_row (by decide), sv_at], rW_up g3 hw'⟩, c⟩, ⟨by rw [sv_at]; rfl, by show 0 ≤ 5; decide, fun q hq => absurd hq (Nat.not_lt_zero _)⟩⟩, fun e => absurd (show 2 = 3 from e) (by decide)⟩
  cases hN : aNew P D l with
  | false =>
    rw [if_pos (show b1 false = (0 : Int32) from rfl)]
    unfold m_Model_definition_b234
    rw [if_pos (show b1 false = (0 : Int32) from rfl), d2, show (0 : Int32) = nI 0 from rfl, fin 0 i (by decide) (fun _ _ _ => rfl), if_neg (show ¬ (false = true) by decide), if_neg (show ¬ 40 < P.length + fr by omega)]
    exact ⟨⟨_, _, _, B, rfl, Or.inr ⟨rfl, okc 0 (by decide)⟩⟩, Nat.le_refl 2⟩
  | true =>
    rw [if_neg (show ¬ b1 true = (0 : Int32) by decide), if_pos rfl, show (40 : Int32) = nI 40 from rfl]
    rcases Classical.em (P.length + fr = 40) with c4 | c4
    · rw [ieq_p c4, ck_n (by omega), cl_n (by omega), h77, r_fail hCO.2.2.1, om_s, if_pos (show 40 < P.length + (fr + 1) by omega)]
      unfold m_Model_definition_b234
      rw [if_neg (show ¬ b1 true = (0 : Int32) by decide), upd_ne (by decide), upd_ne (by decide), d2, show (1 : Int32) = nI 1 from rfl, fin 1 _ (by decide) (fun q q1 q2 => by rw [upd_ne q2, upd_ne q1])]
      exact ⟨⟨_, _, _, B, rfl, Or.inl ⟨by show ¬ 11 = 0; decide, BAD_of hF hB (fun q hq => by rw [upd_ne (fun e => hq (by rw [e]; decide)), upd_ne (fun e => hq (by rw [e]; decide)), upd_ne (fun e => hq (by rw [e]; decide)), upd_ne (fun e => hq (by rw [e]; decide))]) rowF (fun _ _ => rfl) (by rw [upd_ne (by decide), upd_ne (by decide), upd_ne (by decide), upd_at]; rfl) (by rw [upd_ne (by decide), upd_ne (by decide), upd_at]; rfl) (by show 1 ≤ 11 ∧ 11 ≤ 11; decide)⟩⟩, by show 1 ≤ 2; decide⟩
    · rw [ieq_n (by omega), if_neg (show ¬ 40 < P.length + (fr + 1) by omega)]
      unfold m_Model_definition_b234
      rw [if_neg (show ¬ b1 true = (0 : Int32) by decide), d2, show (1 : Int32) = nI 1 from rfl, fin 1 i (by decide) (fun _ _ _ => rfl)]
      exact ⟨⟨_, _, _, B, rfl, Or.inr ⟨rfl, okc 1 (by decide)⟩⟩, Nat.le_refl 2⟩

