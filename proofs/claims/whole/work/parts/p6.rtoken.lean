/-! the reference reads a token -/
theorem b647_bad {n : Nat} {i : Nat → Int32} {j : Nat → Int64} {a : Nat → Nat → Int32} {b : Nat → Nat → Int64} {v1 v2 v3 : Int32} (h : i 75 ≠ 0) : m_Model_scan_b647 n i j a b v1 v2 v3 = some (i, j, a, b, 0) := by
  unfold m_Model_scan_b647 m_Model_scan_b664 m_Model_scan_b708
  rw [if_neg h, if_neg h, if_neg h, ite_self]
theorem b35_bad {n f : Nat} {i : Nat → Int32} {j : Nat → Int64} {a : Nat → Nat → Int32} {b : Nat → Nat → Int64} {v1 v2 v3 v4 : Int32} (h : i 75 ≠ 0) : m_Model_scan_b35 n (f + 1) i j a b v1 v2 v3 v4 = some (i, j, a, b, 0) := by
  rw [m_Model_scan_b35, if_neg h, b647_bad h, ite_self]
def OUT (n f N : Nat) (dfn : Bool) (P : List Proc) (i0 : Nat → Int32) (a0 : Nat → Nat → Int32) (b0 : Nat → Nat → Int64) (B0 : RB4) (j : Nat → Int64) (E : Nat) (r : Rd) (X : Option ((Nat → Int32) × (Nat → Int64) × (Nat → Nat → Int32) × (Nat → Nat → Int64) × Int32)) : Prop := (∃ i' a' b', X = some (i', j, a', b', 0) ∧ BAD i0 a0 b0 B0 r i' a' b') ∨ (∃ i' a' b' B' T' mt' vl' S' lo', X = m_Model_scan_b35 n (f + 1) i' j a' b' (b1 dfn) (nI N) (nI S'.length) (nI E) ∧ SI dfn P i0 a0 b0 B0 E r i' a' b' B' T' mt' vl' S' lo')
theorem BAD_75 {i0 : Nat → Int32} {a0 : Nat → Nat → Int32} {b0 : Nat → Nat → Int64} {B0 : RB4} {i : Nat → Int32} {a : Nat → Nat → Int32} {b : Nat → Nat → Int64} {r : Rd} (h : BAD i0 a0 b0 B0 r i a b) : i 75 ≠ 0 := by
  rw [h.2.1]
  intro e
  have := (nI_eq (b := 0) (by have := h.2.2.2; omega) (by decide)).mp e
  have := h.2.2.2
  omega
/-- the state goes on from what `definition` made -/
theorem OUT_def {n f N : Nat} {P : List Proc} {i0 : Nat → Int32} {a0 : Nat → Nat → Int32} {b0 : Nat → Nat → Int64} {B0 : RB4} {j : Nat → Int64} {E : Nat} {r : Rd} {i : Nat → Int32} {a : Nat → Nat → Int32} {b : Nat → Nat → Int64} {d tok : Nat} {T : Nat → Tr} {mt : Nat → Nat} {vl : Nat → Bool} {S : List Nat} {lo : Nat} (hd : DO (m_Model_definition n i j a b (nI tok) (nI S.length)) j i0 a0 b0 B0 E r T mt vl S lo) (hr : rdF r = 0 → RI true P E r) (hS : S.length ≤ 20 ∧ S.length + 1 = r.2.1.length) (hk : rdF r = 0 → r.1 = 3 → KSx T mt vl lo S r.2.1 r.2.2.1) : OUT n f N true P i0 a0 b0 B0 j E r (m_Model_scan_b629 n (m_Model_scan_b35 n (f + 1)) i j a b (b1 true) (nI N) (nI S.length) (nI E) (nI tok)) := by
  obtain ⟨i', a', b', B', e, h⟩ := hd
  unfold m_Model_scan_b629 m_Model_scan_b640
  rw [if_neg (by decide), e, om_s]
  rcases h with ⟨h1, h2⟩ | ⟨h1, h2, h3, h4, h5, h6⟩
  · left
    exact ⟨i', a', b', b35_bad (BAD_75 h2), h2⟩
  · right
    exact ⟨i', a', b', B', T, mt, vl, S, lo, rfl, ⟨h2, h3, h4⟩, ⟨hr h1, h1⟩, ⟨hk h1, ⟨hS.2, hS.1⟩, h5⟩, (fun _ => h6), (fun e => by cases e)⟩
/-- brackets, numbers, words within brackets; and all tokens of a line -/
theorem OUT_n {n f N : Nat} {dfn : Bool} {k E st tok fr fp lo : Nat} {K : List (List Tr)} {D : List Proc} {cw : Nm} {ci : List Nm} {P : List Proc} {i0 : Nat → Int32} {a0 : Nat → Nat → Int32} {b0 : Nat → Nat → Int64} {B0 : RB4} {i : Nat → Int32} {j : Nat → Int64} {a : Nat → Nat → Int32} {b : Nat → Nat → Int64} {B : RB4} {T : Nat → Tr} {mt : Nat → Nat} {vl : Nat → Bool} {S : List Nat} {r' : Rd} (h : SM dfn i0 a0 b0 B0 k E (st, K, tok, D, cw, ci, fr, 0, fp) i a b B T mt vl S lo) (hr : RI dfn P k (st, K, tok, D, cw, ci, fr, 0, fp))
    (hf : dfn = true → b 80 tok = 3 ∨ (∃ v, rV a b B v none (b 80 tok) ∧ isW v = false) ∨ (∃ v, rV a b B v none (b 80 tok) ∧ 0 < S.length ∧ S.length ≤ 20))
    (h0 : st = 0 → r' = rdBad 7 k r') (h1 : st = 1 → r' = rdBad 8 k r') (h2 : 2 ≤ st → rdF r' = 0 ∧ r'.1 = 3 ∧ r'.2.2.1 = tok + 1 ∧ r'.2.2.2.1 = D ∧ r'.2.2.2.2.1 = cw ∧ r'.2.2.2.2.2.1 = rdI (st, K, tok, D, cw, ci, fr, 0, fp) ∧ r'.2.2.2.2.2.2.1 = fr) (hk : 2 ≤ st → KSx T mt vl (loC (st, K, tok, D, cw, ci, fr, 0, fp) lo) S r'.2.1 (tok + 1)) (hr' : rdF r' = 0 → RI dfn P E r') : OUT n f N dfn P i0 a0 b0 B0 j E r' (m_Model_scan_b629 n (m_Model_scan_b35 n (f + 1)) i j a b (b1 dfn) (nI N) (nI S.length) (nI E) (nI tok)) := by
  have hst : st ≤ 3 := hr.1
  cases dfn with
  | false =>
    have e3 : st = 3 := hr.2.2.2.2.1 rfl
    subst e3
    obtain ⟨q1, q2, q3, q4, q5, q6, q7⟩ := h2 (by decide)
    obtain ⟨⟨hF, hbd, hCO⟩, ⟨h82, hS⟩, h77, hD, hN⟩ := h
    unfold m_Model_scan_b629 m_Model_scan_b640
    rw [if_pos (show b1 false = (0 : Int32) from rfl)]
    have hks := hk (by decide)
    have hlen := (KSx_len _ _ _ hks).1
    right
    exact ⟨i, a, b, B, T, mt, vl, S, lo, rfl, ⟨hF, by rw [q3]; exact ⟨by have := hbd.1; dsimp only at this; omega, hbd.2.1, hbd.2.2⟩, by rw [q3]; exact hCO⟩, ⟨hr' q1, q1⟩, ⟨fun _ => by rw [q3]; exact hks, ⟨hlen.symm, hS⟩, h82⟩, (fun e => by cases e), hN⟩
  | true =>
    have htok : tok < 600 := by have := h.1.2.2.2.2.2.2.1; dsimp only at this; omega
    have hd := r_b52n (n := n) (j := j) (r' := r') h hst h0 h1 h2
    rw [← r_flag0 (n := n) (d := S.length) (by omega) (hf rfl)] at hd
    rcases Nat.lt_or_ge st 2 with c | c
    · have hbad : rdF r' ≠ 0 := by
        rcases (by omega : st = 0 ∨ st = 1) with e | e
        · rw [h0 e]; show ¬ 7 = 0; decide
        · rw [h1 e]; show ¬ 8 = 0; decide
      obtain ⟨i', a', b', B', e, hx⟩ := hd
      rcases hx with ⟨_, hx⟩ | ⟨hx, _⟩
      · left
        refine ⟨i', a', b', ?_, hx⟩
        unfold m_Model_scan_b629 m_Model_scan_b640
        rw [if_neg (by decide), e, om_s, b35_bad (BAD_75 hx)]
      · exact absurd hx hbad
    · have hks := hk c
      have hlen := (KSx_len _ _ _ hks).1
      exact OUT_def (d := 0) hd hr' ⟨h.2.1.2, hlen.symm⟩ (fun _ _ => by rw [(h2 c).2.2.1]; exact hks)
theorem aCI_1 {st tok fr fp : Nat} {K : List (List Tr)} {D : List Proc} {cw : Nm} {ci : List Nm} (h : st = 2 ∨ st = 3) : aCI (st, K, tok + 1, D, cw, ci, fr, 0, fp) = (3, (aCI (st, K, tok, D, cw, ci, fr, 0, fp)).2.1, tok + 1, D, cw, rdI (st, K, tok, D, cw, ci, fr, 0, fp), fr, 0, fp) := by
  unfold aCI rdI
  dsimp only
  rcases h with e | e
  · subst e; rfl
  · subst e; rfl
/-- a value is set down: what comes out -/
theorem OUT_val {n f N : Nat} {dfn : Bool} {k E st tok fr fp lo : Nat} {K : List (List Tr)} {D : List Proc} {cw : Nm} {ci : List Nm} {P : List Proc} {i0 : Nat → Int32} {a0 : Nat → Nat → Int32} {b0 : Nat → Nat → Int64} {B0 : RB4} {i : Nat → Int32} {j : Nat → Int64} {a : Nat → Nat → Int32} {b : Nat → Nat → Int64} {B : RB4} {T : Nat → Tr} {mt : Nat → Nat} {vl : Nat → Bool} {S : List Nat} {v : Tr} (hn : 1000 ≤ n) (hk4 : k ≤ 4000) (hB0 : B0.1 + 1300 ≤ 120000) (hP : rPr i0 a0 b0 B0 P) (h : SM dfn i0 a0 b0 B0 k E (st, K, tok, D, cw, ci, fr, 0, fp) i a b B T mt vl S lo) (hr : RI dfn P k (st, K, tok, D, cw, ci, fr, 0, fp)) (hlS : S.length + 1 = K.length) (hT : T tok = v ∧ vl tok = true ∧ mt tok = tok) (hv : isL v = false ∧ rV a b B v none (b 80 tok) ∧ ∀ l, v = tW l → ∃ w, b 80 tok = vW w ∧ rW a B w l ∧ B0.1 ≤ w) (hk : 2 ≤ st → KSx T mt vl (loC (st, K, tok, D, cw, ci, fr, 0, fp) lo) S (aCI (st, K, tok, D, cw, ci, fr, 0, fp)).2.1 tok) (hr' : rdF (aPlain dfn P k v (st, K, tok + 1, D, cw, ci, fr, 0, fp)) = 0 → RI dfn P E (aPlain dfn P k v (st, K, tok + 1, D, cw, ci, fr, 0, fp))) : OUT n f N dfn P i0 a0 b0 B0 j E (aPlain dfn P k v (st, K, tok + 1, D, cw, ci, fr, 0, fp)) (m_Model_scan_b629 n (m_Model_scan_b35 n (f + 1)) i j a b (b1 dfn) (nI N) (nI S.length) (nI E) (nI tok)) := by
  have hst : st ≤ 3 := hr.1
  have hfalse : dfn = false → st = 3 := hr.2.2.2.2.1
  have htok : tok < 600 := by have := h.1.2.2.2.2.2.2.1; dsimp only at this; omega
  -- the plain way
  have plain : (dfn = true → isW v = false ∨ 0 < S.length) → OUT n f N dfn P i0 a0 b0 B0 j E (aPlain dfn P k v (st, K, tok + 1, D, cw, ci, fr, 0, fp)) (m_Model_scan_b629 n (m_Model_scan_b35 n (f + 1)) i j a b (b1 dfn) (nI N) (nI S.length) (nI E) (nI tok)) := by
    intro hw
    have hm : st < 2 → aMean v = 0 ∧ isW v = false := fun hs => by
      have hd : dfn = true := by
        cases dfn with
        | true => rfl
        | false => have := hfalse rfl; omega
      have hl1 : K.length = 1 := hr.2.2.2.2.2.1 (by show st < 3; omega)
      rcases hw hd with q | q
      · exact ⟨by unfold aMean; rw [q]; rfl, q⟩
      · omega
    have e2 : 2 ≤ st → aPlain dfn P k v (st, K, tok + 1, D, cw, ci, fr, 0, fp) = (3, aKAdd (aCI (st, K, tok, D, cw, ci, fr, 0, fp)).2.1 v, tok + 1, D, cw, rdI (st, K, tok, D, cw, ci, fr, 0, fp), fr, 0, fp) := fun hs => by
      unfold aPlain
      rw [aCI_1 (by omega)]
      dsimp only
      rw [if_neg (by omega), if_neg (by omega)]
      have n87 : ¬ (st = 2 ∧ aMean v = 87) := fun q => by
        have hd : dfn = true := by
          cases dfn with
          | true => rfl
          | false => have := hfalse rfl; omega
        have hl1 : K.length = 1 := hr.2.2.2.2.2.1 (by show st < 3; omega)
        rcases hw hd with q2 | q2
        · have : aMean v = 0 := by unfold aMean; rw [q2]; rfl
          omega
        · omega
      have n85 : ¬ (dfn = true ∧ (aCI (st, K, tok, D, cw, ci, fr, 0, fp)).2.1.length = 1 ∧ aMean v = 85) := fun q => by
        rcases hw q.1 with q2 | q2
        · have : aMean v = 0 := by unfold aMean; rw [q2]; rfl
          omega
        · have := (KSx_len _ _ _ (hk hs)).1
          omega
      rw [if_neg n87, if_neg n85]
    refine OUT_n (f := f) (N := N) (j := j) h hr (fun hd => ?_) (fun e => ?_) (fun e => ?_) (fun hs => ?_) (fun hs => ?_) hr'
    · rcases hw hd with q | q
      · exact Or.inr (Or.inl ⟨v, hv.2.1, q⟩)
      · exact Or.inr (Or.inr ⟨v, hv.2.1, q, h.2.1.2⟩)
    · unfold aPlain
      dsimp only
      rw [if_pos e, (hm (by omega)).1, if_neg (by decide)]
      rfl
    · unfold aPlain aName
      dsimp only
      rw [if_neg (by omega), if_pos e, if_pos (Or.inl (hm (by omega)).2)]
      rfl
    · rw [e2 hs]
      exact ⟨rfl, rfl, rfl, rfl, rfl, rfl, rfl⟩
    · rw [e2 hs]
      have q := KSx_add (hk hs) (Or.inl ⟨hT.2.1, hT.2.2⟩)
      rw [hT.1, hT.2.2] at q
      exact q
  cases hd : dfn with
  | false => subst hd; exact plain (fun e => by cases e)
  | true =>
    subst hd
    rcases Classical.em (isW v = false ∨ 0 < S.length) with c | c
    · exact plain (fun _ => c)
    have hSe : S = [] := List.length_eq_zero_iff.mp (by
      rcases Nat.eq_zero_or_pos S.length with e | e
      · exact e
      · exact absurd (Or.inr e) c)
    subst hSe
    obtain ⟨l, el⟩ : ∃ l, v = tW l := by
      rcases rV_cases hv.2.1 with ⟨z, e, _, _, _⟩ | ⟨l, w, e, _, hrw⟩ | ⟨ns, l, p, e, _⟩
      · exact absurd (Or.inl (by rw [e]; rfl)) c
      · exact ⟨l, e⟩
      · have := hv.1; rw [e, isL_tL] at this; cases this
    subst el
    obtain ⟨w, w1, w2, w3⟩ := hv.2.2 l rfl
    have hfl := r_flag1 (n := n) (i := i) (j := j) (tok := tok) (by omega) w1 w2
    have hl1 : ([] : List Nat).length + 1 = 1 := rfl
    rcases (by omega : st = 0 ∨ st = 1 ∨ 2 ≤ st) with e | e | e
    · have hK : K = [[]] := hr.2.2.2.2.2.2.1 (by show st < 2; omega)
      obtain ⟨q1, q2⟩ := r_dw0 (n := n) (j := j) (P := P) hn h w2 e hK
      rw [← hfl] at q1
      refine OUT_def (d := 0) (S := []) q1 hr' ⟨by decide, ?_⟩ (fun _ e3 => by omega)
      unfold aPlain
      dsimp only
      rw [if_pos e, hK]
      split <;> rfl
    · obtain ⟨q1, q2⟩ := r_dw1 (n := n) (j := j) hn h hP hr w2 w3 e
      rw [← hfl] at q1
      refine OUT_def (d := 0) (S := []) q1 hr' ⟨by decide, ?_⟩ (fun _ e3 => by omega)
      have hK : K = [[]] := hr.2.2.2.2.2.2.1 (by show st < 2; omega)
      unfold aPlain aName
      dsimp only
      rw [if_neg (by omega), if_pos e, hK]
      repeat' split
      all_goals rfl
    · rcases Classical.em (st = 2 ∧ aLex l = 87) with e5 | e5
      · obtain ⟨q1, q2⟩ := r_dwi (n := n) (j := j) hn h hr hB0 w2 e5.1 e5.2
        rw [← hfl] at q1
        refine OUT_def (d := 0) (S := []) q1 hr' ⟨by decide, ?_⟩ (fun _ e3 => by omega)
        have hl1 : K.length = 1 := hr.2.2.2.2.2.1 (by show st < 3; omega)
        unfold aPlain aInput
        dsimp only
        rw [if_neg (by omega), if_neg (by omega), if_pos ⟨e5.1, (aMean_tW l w2.2.2.2.1).trans e5.2⟩]
        split
        · exact hl1.symm
        · rfl
      · obtain ⟨lo', q1, q2⟩ := r_dwb (n := n) (j := j) (P := P) hn h w2 (by omega) (fun q q2 => e5 ⟨q, q2⟩) hT (hk e) (fun m em => by
          have z := (RI_CI hr e).1
          have z3 : ∀ x ∈ m, tOk x 0 := z.2.2.1 m (by rw [em]; exact List.mem_cons_self)
          have z4 := z.2.2.2.1
          have z5 : (aCI (st, K, tok, D, cw, ci, fr, 0, fp)).2.2.1 = tok := (RI_CI hr e).2.2
          rw [em, kSh, z5] at z4
          have q4 := sh_list m
          have q5 := (sz_sh _).1 (tOk_tL z3).1
          unfold tSl
          omega)
        rw [← hfl] at q1
        have e3 : (aPlain true P k (tW l) (st, K, tok + 1, D, cw, ci, fr, 0, fp)).2.2.1 = tok + 1 := by
          unfold aPlain
          rw [aCI_1 (by omega)]
          dsimp only
          rw [if_neg (by omega), if_neg (by omega), if_neg (fun q : st = 2 ∧ aMean (tW l) = 87 => e5 ⟨q.1, (aMean_tW l w2.2.2.2.1).symm.trans q.2⟩)]
          split <;> rfl
        refine OUT_def (d := 0) (S := []) q1 hr' ⟨by decide, ?_⟩ (fun _ e4 => by rw [e3]; exact q2 e4)
        unfold aPlain
        rw [aCI_1 (by omega)]
        dsimp only
        rw [if_neg (by omega), if_neg (by omega), if_neg (fun q : st = 2 ∧ aMean (tW l) = 87 => e5 ⟨q.1, (aMean_tW l w2.2.2.2.1).symm.trans q.2⟩)]
        obtain ⟨m, em, hm⟩ := hk e
        rw [em]
        split <;> rfl

