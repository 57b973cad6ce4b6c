/-! the reference reads the tape, from end to end -/
theorem gdC_i (x : Nat) : gdC x = true ↔ (x = 10 ∨ (32 ≤ x ∧ x ≤ 126)) := by
  unfold gdC
  rw [Bool.or_eq_true, beq_iff_eq, decide_eq_true_eq]
/-- at a sign that begins a token -/
theorem r_begin {n f N k : Nat} {tp : Nat → Nat} {i : Nat → Int32} {j : Nat → Int64} {a : Nat → Nat → Int32} {b : Nat → Nat → Int64} {v1 v3 : Int32} (hn : 5000 ≤ n) (h75 : i 75 = 0) (hN : N ≤ 4000) (hkN : k < N) (h73 : ∀ x, x < N → a 73 x = sBy (tp x)) (h256 : ∀ x, tp x < 256) (hc : 33 ≤ tp k ∧ tp k ≤ 126 ∧ tp k ≠ 59) (hp : k = 0 ∨ (tp (k - 1) ≠ 59 ∧ tp (k - 1) < 128)) : m_Model_scan_b35 n (f + 1) i j a b v1 (nI N) v3 (nI k) = m_Model_scan_b285 n (m_Model_scan_b35 n f) i j a b v1 (nI N) v3 (nI k) (nI (tp k)) (nI (aTE tp N k)) (b1 (aAlone (tp k) || (tp k == 45 && !aDash tp N k))) := by
  have hgd : gdC (tp k) = true := (gdC_i _).mpr (by omega)
  have one : m_Model_scan_b198 n (m_Model_scan_b35 n f) i j a b v1 (nI N) v3 (nI k) (nI (tp k)) (nI (k + 1)) = m_Model_scan_b285 n (m_Model_scan_b35 n f) i j a b v1 (nI N) v3 (nI k) (nI (tp k)) (nI (k + 1)) 1 := by
    obtain ⟨n, rfl⟩ : ∃ n', n = n' + 1 := ⟨n - 1, by omega⟩
    unfold m_Model_scan_b198 m_Model_scan_b203
    rw [m_Model_scan_b205, if_neg (by decide)]
  have many : m_Model_scan_b202 n (m_Model_scan_b35 n f) i j a b v1 (nI N) v3 (nI k) (nI (tp k)) (nI (k + 1)) = m_Model_scan_b285 n (m_Model_scan_b35 n f) i j a b v1 (nI N) v3 (nI k) (nI (tp k)) (nI (aTEl tp (N - (k + 1)) (k + 1))) 0 := by
    unfold m_Model_scan_b202 m_Model_scan_b203
    exact r_s205 hN h73 h256 (N - (k + 1)) (k + 1) n (by omega) (by omega)
  rw [m_Model_scan_b35, ile_n (by omega), if_pos h75, ck_n (by omega), cl_n (by omega), ob1_s, h73 k hkN, r_good (h256 k), ob0_s, hgd, if_neg (by decide), sBy_n (by omega), show (10 : Int32) = nI 10 from rfl, ieq_n (by omega), show (32 : Int32) = nI 32 from rfl, ieq_n (by omega), show (59 : Int32) = nI 59 from rfl, ieq_n (by omega), ob1_s, show nI k + (1 : Int32) = nI (k + 1) from nI_add _ 1, show (91 : Int32) = nI 91 from rfl, show (93 : Int32) = nI 93 from rfl, show (45 : Int32) = nI 45 from rfl, ieqs (by omega) (by decide), ieqs (by omega) (by decide), ieqs (by omega) (by decide), r_single9 (by omega), ob0_s, r_alone hN hkN h73 h256 hp, ob0_s, one, many]
  unfold aTE
  rcases Classical.em (tp k = 91) with c1 | c1
  · rw [if_pos c1, c1]; rfl
  rw [if_neg c1]
  rcases Classical.em (tp k = 93) with c2 | c2
  · rw [if_pos c2, c2]; rfl
  rw [if_neg c2]
  rcases Classical.em (tp k = 45) with c3 | c3
  · rw [if_pos c3, c3]
    cases aDash tp N k
    · rw [if_neg (show ¬ b1 (sgC 45) = (0 : Int32) by decide), if_neg (show ¬ b1 (!false) = (0 : Int32) by decide)]; rfl
    · rw [if_neg (show ¬ b1 (sgC 45) = (0 : Int32) by decide), if_pos (show b1 (!true) = (0 : Int32) from rfl)]; rfl
  rw [if_neg c3, show (tp k == 45) = false from beq_false_of_ne c3, Bool.false_and, Bool.or_false]
  have hs : sgC (tp k) = aAlone (tp k) := by
    rw [Bool.eq_iff_iff]
    unfold sgC aSgn aAlone
    simp only [Bool.or_eq_true, decide_eq_true_eq, beq_iff_eq, Bool.or_false]
    omega
  rw [hs]
  cases aAlone (tp k)
  · rw [if_pos (show b1 false = (0 : Int32) from rfl)]; rfl
  · rw [if_neg (show ¬ b1 true = (0 : Int32) by decide)]; rfl
theorem SI_up {dfn : Bool} {P : List Proc} {i0 : Nat → Int32} {a0 : Nat → Nat → Int32} {b0 : Nat → Nat → Int64} {B0 : RB4} {k k' : Nat} {r : Rd} {i : Nat → Int32} {a : Nat → Nat → Int32} {b : Nat → Nat → Int64} {B : RB4} {T : Nat → Tr} {mt : Nat → Nat} {vl : Nat → Bool} {S : List Nat} {lo : Nat} (h : SI dfn P i0 a0 b0 B0 k r i a b B T mt vl S lo) (hk : k ≤ k') : SI dfn P i0 a0 b0 B0 k' r i a b B T mt vl S lo := by
  obtain ⟨⟨h1, ⟨h2, h2', h2''⟩, h3⟩, ⟨⟨s1, s2, s3, s4, s5⟩, hf⟩, h5⟩ := h
  exact ⟨⟨h1, ⟨h2, by omega, h2''⟩, h3⟩, ⟨⟨s1, s2, s3, by omega, s5⟩, hf⟩, h5⟩
/-- what comes out of reading -/
def RES (dfn : Bool) (P : List Proc) (i0 : Nat → Int32) (a0 : Nat → Nat → Int32) (b0 : Nat → Nat → Int64) (B0 : RB4) (j : Nat → Int64) (N : Nat) (r : Rd) (X : Option ((Nat → Int32) × (Nat → Int64) × (Nat → Nat → Int32) × (Nat → Nat → Int64) × Int32)) : Prop := ∃ i' a' b', X = some (i', j, a', b', b1 (decide (rdF r = 0))) ∧ ((rdF r ≠ 0 ∧ BAD i0 a0 b0 B0 r i' a' b') ∨ (rdF r = 0 ∧ ∃ B' T mt vl lo, SI dfn P i0 a0 b0 B0 N r i' a' b' B' T mt vl [] lo))
theorem RES_bad {dfn : Bool} {P : List Proc} {i0 : Nat → Int32} {a0 : Nat → Nat → Int32} {b0 : Nat → Nat → Int64} {B0 : RB4} {j : Nat → Int64} {N : Nat} {r : Rd} {i' : Nat → Int32} {a' : Nat → Nat → Int32} {b' : Nat → Nat → Int64} (h : BAD i0 a0 b0 B0 r i' a' b') : RES dfn P i0 a0 b0 B0 j N r (some (i', j, a', b', 0)) := by
  have hf : rdF r ≠ 0 := by have := h.2.2.2.1; omega
  exact ⟨i', a', b', by rw [decide_eq_false hf]; rfl, Or.inl ⟨hf, h⟩⟩
theorem aRdEnd_bad {dfn : Bool} {N : Nat} {r : Rd} (h : rdF r ≠ 0) : aRdEnd dfn N r = r := by
  unfold aRdEnd
  rw [if_pos h]
theorem aScan_bad {dfn : Bool} {P : List Proc} {tp : Nat → Nat} {N g k : Nat} {cm : Bool} {r : Rd} (h : rdF r ≠ 0) : aScan dfn P tp N g k cm r = r := by
  cases g with
  | zero => rfl
  | succ g => rw [aScan, if_pos (Or.inr h)]
/-- the end of the tape -/
theorem r_end {n f N : Nat} {dfn : Bool} {P : List Proc} {i0 : Nat → Int32} {a0 : Nat → Nat → Int32} {b0 : Nat → Nat → Int64} {B0 : RB4} {r : Rd} {i : Nat → Int32} {j : Nat → Int64} {a : Nat → Nat → Int32} {b : Nat → Nat → Int64} {B : RB4} {T : Nat → Tr} {mt : Nat → Nat} {vl : Nat → Bool} {S : List Nat} {lo : Nat} (h : SI dfn P i0 a0 b0 B0 N r i a b B T mt vl S lo) (hN : N ≤ 4000) : RES dfn P i0 a0 b0 B0 j N (aRdEnd dfn N r) (m_Model_scan_b35 n (f + 1) i j a b (b1 dfn) (nI N) (nI S.length) (nI N)) := by
  have hf : rdF r = 0 := h.2.1.2
  have hlS := h.2.2.1.2.1.1
  have h20 := h.2.2.1.2.1.2
  have h75 := h.1.2.2.2.2.1
  have hB := h.1.2.2.1.2.2.2.2
  have bad : ∀ kd : Nat, 1 ≤ kd ∧ kd ≤ 11 → BAD i0 a0 b0 B0 (rdBad kd N r) (upd (upd i 75 (nI kd)) 76 (nI N)) a b := fun kd hk => BAD_of h.1.1 hB (fun q hq => by rw [upd_ne (fun e => hq (by rw [e]; decide)), upd_ne (fun e => hq (by rw [e]; decide))]) (fun _ _ => rfl) (fun _ _ => rfl) (by rw [upd_ne (by decide), upd_at]; rfl) upd_at hk
  rw [m_Model_scan_b35, ile_p (by omega)]
  unfold m_Model_scan_b647 aRdEnd
  rw [if_pos h75, if_neg (fun q => q hf), show (0 : Int32) = nI 0 from rfl]
  rcases Nat.eq_zero_or_pos S.length with c | c
  rotate_left
  · rw [ile_n (by omega), show (4 : Int32) = nI 4 from rfl, r_fail h75, om_s, if_pos (by omega)]
    have hb := bad 4 (by decide)
    unfold m_Model_scan_b664 m_Model_scan_b708
    rw [if_neg (show ¬ (upd (upd i 75 (nI 4)) 76 (nI N)) 75 = 0 from BAD_75 hb), if_neg (show ¬ (upd (upd i 75 (nI 4)) 76 (nI N)) 75 = 0 from BAD_75 hb), ite_self]
    exact RES_bad hb
  rw [ile_p (by omega), if_neg (by omega)]
  have hSe : S = [] := List.length_eq_zero_iff.mp c
  subst hSe
  have good : RES dfn P i0 a0 b0 B0 j N r (m_Model_scan_b708 n i j a b) := by
    unfold m_Model_scan_b708
    rw [if_pos h75]
    exact ⟨i, a, b, by rw [decide_eq_true hf]; rfl, Or.inr ⟨hf, B, T, mt, vl, lo, h⟩⟩
  unfold m_Model_scan_b664
  cases dfn with
  | false => rw [if_pos (show b1 false = (0 : Int32) from rfl), if_pos (Or.inl rfl)]; exact good
  | true =>
    have h84 : i 84 = nI r.1 := (h.2.2.2.1 rfl).1.1
    have hst : r.1 ≤ 3 := h.2.1.1.1
    rw [if_neg (show ¬ b1 true = (0 : Int32) by decide), if_pos h75, h84]
    rcases (by omega : r.1 = 0 ∨ r.1 = 1 ∨ 2 ≤ r.1) with e | e | e
    · rw [if_neg (show ¬ nI r.1 = (1 : Int32) by rw [e]; decide), if_pos (show nI r.1 ≤ (1 : Int32) by rw [e]; decide), if_pos (Or.inr e)]
      exact good
    · rw [if_pos (show nI r.1 = (1 : Int32) by rw [e]; rfl), if_neg (fun q => by rcases q with q | q; cases q; omega), if_pos e, show (8 : Int32) = nI 8 from rfl, r_fail h75, om_s]
      have hb := bad 8 (by decide)
      unfold m_Model_scan_b708
      rw [if_neg (show ¬ (upd (upd i 75 (nI 8)) 76 (nI N)) 75 = 0 from BAD_75 hb)]
      exact RES_bad hb
    · rw [if_neg (show ¬ nI r.1 = (1 : Int32) from fun q => by have := (nI_eq (b := 1) (by omega) (by decide)).mp q; omega), show (1 : Int32) = nI 1 from rfl, ile_n (by omega), if_neg (fun q => by rcases q with q | q; cases q; omega), if_neg (by omega), show (10 : Int32) = nI 10 from rfl, r_fail h75, om_s]
      have hb := bad 10 (by decide)
      unfold m_Model_scan_b708
      rw [if_neg (show ¬ (upd (upd i 75 (nI 10)) 76 (nI N)) 75 = 0 from BAD_75 hb)]
      exact RES_bad hb
/-- a remark -/
theorem r_remark {n f N : Nat} {dfn : Bool} {P : List Proc} {tp : Nat → Nat} {i0 : Nat → Int32} {a0 : Nat → Nat → Int32} {b0 : Nat → Nat → Int64} {B0 : RB4} {r : Rd} {i : Nat → Int32} {j : Nat → Int64} {a : Nat → Nat → Int32} {b : Nat → Nat → Int64} {B : RB4} {T : Nat → Tr} {mt : Nat → Nat} {vl : Nat → Bool} {S : List Nat} {lo : Nat} (hN : N ≤ 4000) (hf : rdF r = 0) (h75 : i 75 = 0) (hF : SF i0 a0 b0 B0 i a b B) (hB : B.1 ≤ 120000 ∧ B.2.1 ≤ 300000 ∧ B.2.2.1 ≤ 90000 ∧ B.2.2.2 ≤ 90000) (h73 : ∀ x, x < N → a 73 x = sBy (tp x)) (h256 : ∀ x, tp x < 256) : ∀ (m k g e : Nat) (cm : Bool), k + m = N → m < g → m < e → (cm = true ∨ (k < N ∧ tp k = 59)) →
    (∃ k' g', k ≤ k' ∧ k' ≤ N ∧ (cm = false → k < k') ∧ N - k' < g' ∧ (k' = N ∨ tp k' = 10) ∧ m_Model_scan_b102 n (m_Model_scan_b35 n (f + 1)) e i j a b (b1 dfn) (nI N) (nI S.length) (nI k) = m_Model_scan_b35 n (f + 1) i j a b (b1 dfn) (nI N) (nI S.length) (nI k') ∧ aScan dfn P tp N g k cm r = aScan dfn P tp N g' k' false r) ∨ (∃ i' k', m_Model_scan_b102 n (m_Model_scan_b35 n (f + 1)) e i j a b (b1 dfn) (nI N) (nI S.length) (nI k) = some (i', j, a, b, 0) ∧ BAD i0 a0 b0 B0 (rdBad 1 k' r) i' a b ∧ aScan dfn P tp N g k cm r = rdBad 1 k' r) := by
  intro m
  induction m with
  | zero =>
    intro k g e cm hk hg he hc
    obtain ⟨e, rfl⟩ : ∃ e', e = e' + 1 := ⟨e - 1, by omega⟩
    obtain ⟨g, rfl⟩ : ∃ e', g = e' + 1 := ⟨g - 1, by omega⟩
    left
    refine ⟨k, g + 1, Nat.le_refl _, by omega, fun e => ?_, by omega, Or.inl (by omega), ?_, ?_⟩
    · rcases hc with q | q
      · rw [q] at e; cases e
      · omega
    · rw [m_Model_scan_b102, ile_p (by omega)]
    · rw [aScan, aScan, if_pos (Or.inl (by omega)), if_pos (Or.inl (by omega))]
  | succ m ih =>
    intro k g e cm hk hg he hc
    obtain ⟨e, rfl⟩ : ∃ e', e = e' + 1 := ⟨e - 1, by omega⟩
    obtain ⟨g, rfl⟩ : ∃ e', g = e' + 1 := ⟨g - 1, by omega⟩
    have hkN : k < N := by omega
    have e10 : (if a 73 k = (10 : Int32) then (m_Model_scan_b35 n (f + 1) i j a b (b1 dfn) (nI N) (nI S.length) (nI k)) else (if i 75 = 0 then ck (nI k) 4000 (ob0 (m_Model_isGood n (a 73 k)) (fun r_7 => if r_7 = (0 : Int32) then om (m_Model_fail n i j a b 1 (nI k)) (fun i_10 j_11 a_12 b_13 r_14 => m_Model_scan_b147 n (m_Model_scan_b35 n (f + 1)) (m_Model_scan_b102 n (m_Model_scan_b35 n (f + 1)) e) i_10 j_11 a_12 b_13 (b1 dfn) (nI N) (nI S.length) (nI k)) else m_Model_scan_b147 n (m_Model_scan_b35 n (f + 1)) (m_Model_scan_b102 n (m_Model_scan_b35 n (f + 1)) e) i j a b (b1 dfn) (nI N) (nI S.length) (nI k))) else (m_Model_scan_b35 n (f + 1) i j a b (b1 dfn) (nI N) (nI S.length) (nI k)))) = m_Model_scan_b102 n (m_Model_scan_b35 n (f + 1)) (e + 1) i j a b (b1 dfn) (nI N) (nI S.length) (nI k) := by
      rw [m_Model_scan_b102, ile_n (by omega), cl_n (by omega), ck_n (by omega), ck_n (by omega)]
    rw [← e10, h73 k hkN]
    rcases Classical.em (tp k = 10) with c1 | c1
    · left
      refine ⟨k, g + 1, Nat.le_refl _, by omega, fun e => ?_, by omega, Or.inr c1, ?_, ?_⟩
      · rcases hc with q | q
        · rw [q] at e; cases e
        · omega
      · rw [sBy_n (by omega), c1, if_pos (show nI 10 = (10 : Int32) from rfl)]
      · have hcm : cm = true := by
          rcases hc with q | q
          · exact q
          · omega
        rw [aScan, aScan, if_neg (fun q => by rcases q with q | q; omega; exact q hf), if_neg (fun q => q.1 c1), if_pos (Or.inl hcm), if_neg (fun q => by rcases q with q | q; omega; exact q hf), if_neg (fun q => q.1 c1), if_neg (fun q => by rcases q with q | q; cases q; omega), if_pos (Or.inl c1), c1]
        rfl
    have hn10 : ¬ sBy (tp k) = (10 : Int32) := by
      rcases Nat.lt_or_ge (tp k) 128 with q | q
      · rw [sBy_n q]
        exact fun e => c1 ((nI_eq (b := 10) (by omega) (by decide)).mp e)
      · intro e
        have := sBy_neg q (h256 k)
        rw [e] at this
        exact absurd this (by decide)
    rw [if_neg hn10, if_pos h75, ck_n (by omega), r_good (h256 k), ob0_s]
    unfold m_Model_scan_b147
    rw [show nI k + (1 : Int32) = nI (k + 1) from nI_add _ 1]
    cases hg2 : gdC (tp k) with
    | false =>
      right
      have hng : ¬ (tp k = 10 ∨ (32 ≤ tp k ∧ tp k ≤ 126)) := fun q => by rw [(gdC_i _).mpr q] at hg2; cases hg2
      have hb : BAD i0 a0 b0 B0 (rdBad 1 k r) (upd (upd i 75 (nI 1)) 76 (nI k)) a b := BAD_of hF hB (fun q hq => by rw [upd_ne (fun e => hq (by rw [e]; decide)), upd_ne (fun e => hq (by rw [e]; decide))]) (fun _ _ => rfl) (fun _ _ => rfl) (by rw [upd_ne (by decide), upd_at]; rfl) upd_at (by show 1 ≤ 1 ∧ 1 ≤ 11; decide)
      refine ⟨_, k, ?_, hb, ?_⟩
      · obtain ⟨e, rfl⟩ : ∃ e', e = e' + 1 := ⟨e - 1, by omega⟩
        rw [if_pos (show b1 false = (0 : Int32) from rfl), show (1 : Int32) = nI 1 from rfl, r_fail h75, om_s, ob1_s, m_Model_scan_b102, b35_bad (BAD_75 hb)]
        rcases Nat.lt_or_ge (k + 1) N with q | q
        · rw [ile_n (by omega), ck_n (by omega), if_neg (BAD_75 hb), ite_self]
        · rw [ile_p (by omega)]
      · rw [aScan, if_neg (fun q => by rcases q with q | q; omega; exact q hf), if_pos (by omega)]
    | true =>
      have hgd := (gdC_i _).mp hg2
      rw [if_neg (show ¬ b1 true = (0 : Int32) by decide), ob1_s]
      have es : aScan dfn P tp N (g + 1) k cm r = aScan dfn P tp N g (k + 1) true r := by
        rw [aScan, if_neg (fun q => by rcases q with q | q; omega; exact q hf), if_neg (by omega), if_pos (by rcases hc with q | q; exact Or.inl q; exact Or.inr q.2), show (tp k != 10) = true from bne_iff_ne.mpr c1]
      rw [es]
      rcases ih (k + 1) g e true (by omega) (by omega) (by omega) (Or.inl rfl) with ⟨k', g', q1, q2, q3, q4, q5, q6, q7⟩ | ⟨i', k', q1, q2, q3⟩
      · exact Or.inl ⟨k', g', by omega, q2, fun _ => by omega, q4, q5, q6, q7⟩
      · exact Or.inr ⟨i', k', q1, q2, q3⟩
/-- the whole tape -/
theorem r_tape {n N : Nat} {dfn : Bool} {P : List Proc} {tp : Nat → Nat} {i0 : Nat → Int32} {a0 : Nat → Nat → Int32} {b0 : Nat → Nat → Int64} {B0 : RB4} {j : Nat → Int64} (hn : 5000 ≤ n) (hB0 : B0.1 + 1300 ≤ 120000 ∧ B0.2.1 + 4000 ≤ 300000) (hP : rPr i0 a0 b0 B0 P) (hN : N ≤ 4000) (h73 : ∀ x, x < N → a0 73 x = sBy (tp x)) (h256 : ∀ x, tp x < 256) : ∀ (m k f g : Nat) (r : Rd) (i : Nat → Int32) (a : Nat → Nat → Int32) (b : Nat → Nat → Int64) (B : RB4) (T : Nat → Tr) (mt : Nat → Nat) (vl : Nat → Bool) (S : List Nat) (lo : Nat), N - k ≤ m → k ≤ N → m < f → N - k < g → SI dfn P i0 a0 b0 B0 k r i a b B T mt vl S lo → (k = 0 ∨ (tp (k - 1) ≠ 59 ∧ tp (k - 1) < 128) ∨ k = N ∨ tp k = 10) → RES dfn P i0 a0 b0 B0 j N (aRdEnd dfn N (aScan dfn P tp N g k false r)) (m_Model_scan_b35 n f i j a b (b1 dfn) (nI N) (nI S.length) (nI k)) := by
  intro m
  induction m with
  | zero =>
    intro k f g r i a b B T mt vl S lo hm hk hf hg h hp
    have e : k = N := by omega
    subst e
    obtain ⟨f, rfl⟩ : ∃ e', f = e' + 1 := ⟨f - 1, by omega⟩
    obtain ⟨g, rfl⟩ : ∃ e', g = e' + 1 := ⟨g - 1, by omega⟩
    rw [aScan, if_pos (Or.inl (Nat.le_refl _))]
    exact r_end h hN
  | succ m ih =>
    intro k f g r i a b B T mt vl S lo hm hk hf hg h hp
    rcases Nat.eq_or_lt_of_le hk with e | hkN
    · subst e
      obtain ⟨f, rfl⟩ : ∃ e', f = e' + 1 := ⟨f - 1, by omega⟩
      obtain ⟨g, rfl⟩ : ∃ e', g = e' + 1 := ⟨g - 1, by omega⟩
      rw [aScan, if_pos (Or.inl (Nat.le_refl _))]
      exact r_end h hN
    obtain ⟨f, rfl⟩ : ∃ e', f = e' + 1 := ⟨f - 1, by omega⟩
    obtain ⟨g, rfl⟩ : ∃ e', g = e' + 1 := ⟨g - 1, by omega⟩
    have hfl : rdF r = 0 := h.2.1.2
    have h75 := h.1.2.2.2.2.1
    have hB := h.1.2.2.1.2.2.2.2
    have h73a : ∀ x, x < N → a 73 x = sBy (tp x) := fun x hx => by rw [h.1.1.2.1 73 (by decide)]; exact h73 x hx
    have no : ¬ (N ≤ k ∨ rdF r ≠ 0) := fun q => by rcases q with q | q; omega; exact q hfl
    rw [aScan, if_neg no]
    rcases Classical.em (33 ≤ tp k ∧ tp k ≤ 126 ∧ tp k ≠ 59) with c | c
    · rw [if_neg (by omega), if_neg (fun q => by rcases q with q | q; cases q; omega), if_neg (by omega)]
      obtain ⟨f, rfl⟩ : ∃ e', f = e' + 1 := ⟨f - 1, by omega⟩
      rw [r_begin hn h75 hN hkN h73a h256 c (by omega)]
      have hte := aTE_le (tp := tp) hkN
      rcases r_token (n := n) (f := f) (tp := tp) (j := j) hn hB0 hP h hN hkN h73a ⟨c.1, c.2.1⟩ with ⟨i', a', b', q1, q2⟩ | ⟨i', a', b', B', T', mt', vl', S', lo', q1, q2⟩
      · have hbf : rdF (aTok dfn P k (aTxt tp k (aTE tp N k)) r) ≠ 0 := by have := q2.2.2.2.1; omega
        rw [q1, aScan_bad hbf, aRdEnd_bad hbf]
        exact RES_bad q2
      · rw [q1]
        refine ih (aTE tp N k) (f + 1) g _ i' a' b' B' T' mt' vl' S' lo' (by omega) hte.2 (by omega) (by omega) q2 (Or.inr (Or.inl ?_))
        unfold aTE at hte ⊢
        split at hte
        · next hsg => rw [if_pos hsg]; rw [Nat.add_sub_cancel]; omega
        · next hsg =>
          rw [if_neg hsg]
          rcases Classical.em (aTEl tp (N - (k + 1)) (k + 1) = k + 1) with q | q
          · rw [q, Nat.add_sub_cancel]; omega
          · have hh := (aTEl_le tp (N - (k + 1)) (k + 1))
            have h9 := hh.2.2 (aTEl tp (N - (k + 1)) (k + 1) - 1) (by omega) (by omega)
            have hok := aHalts_ok h9
            refine ⟨fun e => ?_, by omega⟩
            rw [e] at h9
            exact absurd h9 (by decide)
    rcases Classical.em (tp k = 10 ∨ tp k = 32) with c1 | c1
    · rw [if_neg (by omega), if_neg (fun q => by rcases q with q | q; cases q; omega), if_pos c1, m_Model_scan_b35, ile_n (by omega), if_pos h75, ck_n (by omega), cl_n (by omega), ob1_s, h73a k hkN, r_good (h256 k), ob0_s, (gdC_i (tp k)).mpr (by omega), if_neg (by decide), sBy_n (by omega)]
      unfold m_Model_scan_b89
      rw [show nI k + (1 : Int32) = nI (k + 1) from nI_add _ 1, ob1_s]
      have goOn := ih (k + 1) f g r i a b B T mt vl S lo (by omega) (by omega) (by omega) (by omega) (SI_up h (Nat.le_succ _)) (Or.inr (Or.inl (by rw [Nat.add_sub_cancel]; omega)))
      rcases c1 with c1 | c1
      · rw [c1, if_pos (show nI 10 = (10 : Int32) from rfl)]; exact goOn
      · rw [c1, if_neg (show ¬ nI 32 = (10 : Int32) by decide), if_pos (show nI 32 = (32 : Int32) from rfl)]; exact goOn
    rcases Classical.em (tp k = 59) with c2 | c2
    · rw [m_Model_scan_b35, ile_n (by omega), if_pos h75, ck_n (by omega), cl_n (by omega), ob1_s, h73a k hkN, r_good (h256 k), ob0_s, (gdC_i (tp k)).mpr (by omega), if_neg (show ¬ b1 true = (0 : Int32) by decide), sBy_n (by omega), c2, if_neg (show ¬ nI 59 = (10 : Int32) by decide), if_neg (show ¬ nI 59 = (32 : Int32) by decide), if_pos (show nI 59 = (59 : Int32) from rfl)]
      obtain ⟨f, rfl⟩ : ∃ e', f = e' + 1 := ⟨f - 1, by omega⟩
      have hs : aScan dfn P tp N (g + 1) k false r = (if tp k ≠ 10 ∧ (tp k < 32 ∨ 126 < tp k) then rdBad 1 k r else if false = true ∨ tp k = 59 then aScan dfn P tp N g (k + 1) (tp k != 10) r else if tp k = 10 ∨ tp k = 32 then aScan dfn P tp N g (k + 1) false r else aScan dfn P tp N g (aTE tp N k) false (aTok dfn P k (aTxt tp k (aTE tp N k)) r)) := by
        rw [aScan, if_neg no]
      rw [c2] at hs
      rw [← hs]
      rcases r_remark (n := n) (f := f) (dfn := dfn) (P := P) (tp := tp) (r := r) (j := j) (S := S) (lo := lo) (T := T) (mt := mt) (vl := vl) hN hfl h75 h.1.1 hB h73a h256 (N - k) k (g + 1) n false (by omega) (by omega) (by omega) (Or.inr ⟨hkN, c2⟩) with ⟨k', g', q1, q2, q3, q4, q5, q6, q7⟩ | ⟨i', k', q1, q2, q3⟩
      · have := q3 rfl
        rw [q6, q7]
        exact ih k' (f + 1) g' r i a b B T mt vl S lo (by omega) q2 (by omega) q4 (SI_up h q1) (by rcases q5 with q5 | q5; exact Or.inr (Or.inr (Or.inl q5)); exact Or.inr (Or.inr (Or.inr q5)))
      · have hbf : rdF (rdBad 1 k' r) ≠ 0 := by show ¬ 1 = 0; decide
        rw [q1, q3, aRdEnd_bad hbf]
        exact RES_bad q2
    have hng : ¬ (tp k = 10 ∨ (32 ≤ tp k ∧ tp k ≤ 126)) := by omega
    have hgf : gdC (tp k) = false := by
      cases hq : gdC (tp k) with
      | false => rfl
      | true => exact absurd ((gdC_i _).mp hq) hng
    rw [if_pos (by omega), m_Model_scan_b35, ile_n (by omega), if_pos h75, ck_n (by omega), cl_n (by omega), ob1_s, h73a k hkN, r_good (h256 k), ob0_s, hgf, if_pos (show b1 false = (0 : Int32) from rfl), show (1 : Int32) = nI 1 from rfl, r_fail h75, om_s]
    have hb : BAD i0 a0 b0 B0 (rdBad 1 k r) (upd (upd i 75 (nI 1)) 76 (nI k)) a b := BAD_of h.1.1 hB (fun q hq => by rw [upd_ne (fun e => hq (by rw [e]; decide)), upd_ne (fun e => hq (by rw [e]; decide))]) (fun _ _ => rfl) (fun _ _ => rfl) (by rw [upd_ne (by decide), upd_at]; rfl) upd_at (by show 1 ≤ 1 ∧ 1 ≤ 11; decide)
    rw [b647_bad (BAD_75 hb), aRdEnd_bad (by show ¬ 1 = 0; decide)]
    exact RES_bad hb

