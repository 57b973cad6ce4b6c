/-! the reference reads the tape -/
theorem b414_bad {n : Nat} {rc : (Nat → Int32) → (Nat → Int64) → (Nat → Nat → Int32) → (Nat → Nat → Int64) → Int32 → Int32 → Int32 → Int32 → Option ((Nat → Int32) × (Nat → Int64) × (Nat → Nat → Int32) × (Nat → Nat → Int64) × Int32)} {i : Nat → Int32} {j : Nat → Int64} {a : Nat → Nat → Int32} {b : Nat → Nat → Int64} {v1 v2 v3 v4 v5 v6 v7 v8 : Int32} (h : i 75 ≠ 0) : m_Model_scan_b414 n rc i j a b v1 v2 v3 v4 v5 v6 v7 v8 = some (i, j, a, b, 0) := by
  unfold m_Model_scan_b414
  rw [if_neg h, b647_bad h]
theorem OUT_bad {n f N : Nat} {dfn : Bool} {P : List Proc} {i0 : Nat → Int32} {a0 : Nat → Nat → Int32} {b0 : Nat → Nat → Int64} {B0 : RB4} {i : Nat → Int32} {j : Nat → Int64} {a : Nat → Nat → Int32} {b : Nat → Nat → Int64} {B : RB4} {T : Nat → Tr} {mt : Nat → Nat} {vl : Nat → Bool} {S : List Nat} {lo k E : Nat} {r r1 : Rd} {kd : Nat} {rc : (Nat → Int32) → (Nat → Int64) → (Nat → Nat → Int32) → (Nat → Nat → Int64) → Int32 → Int32 → Int32 → Int32 → Option ((Nat → Int32) × (Nat → Int64) × (Nat → Nat → Int32) × (Nat → Nat → Int64) × Int32)} {v1 v2 v3 v4 v5 v6 v7 v8 : Int32} (h : SI dfn P i0 a0 b0 B0 k r i a b B T mt vl S lo) (hk : 1 ≤ kd ∧ kd ≤ 11) : OUT n f N dfn P i0 a0 b0 B0 j E (rdBad kd k r1) (om (m_Model_fail n i j a b (nI kd) (nI k)) (fun i j a b _ => m_Model_scan_b414 n rc i j a b v1 v2 v3 v4 v5 v6 v7 v8)) := by
  left
  have hB := h.1.2.2.1.2.2.2.2
  have hbad : BAD i0 a0 b0 B0 (rdBad kd k r1) (upd (upd i 75 (nI kd)) 76 (nI k)) a b := BAD_of h.1.1 hB (fun q hq => by rw [upd_ne (fun e => hq (by rw [e]; decide)), upd_ne (fun e => hq (by rw [e]; decide))]) (fun _ _ => rfl) (fun _ _ => rfl) (by rw [upd_ne (by decide), upd_at]; rfl) upd_at hk
  refine ⟨_, a, b, ?_, hbad⟩
  rw [r_fail h.1.2.2.2.2.1, om_s, b414_bad (BAD_75 hbad)]
/-- a token that is no bracket -/
theorem r_tokP {n f N : Nat} {dfn : Bool} {k E st tok fr fp lo : Nat} {K : List (List Tr)} {D : List Proc} {cw : Nm} {ci : List Nm} {P : List Proc} {i0 : Nat → Int32} {a0 : Nat → Nat → Int32} {b0 : Nat → Nat → Int64} {B0 : RB4} {i : Nat → Int32} {j : Nat → Int64} {a : Nat → Nat → Int32} {b : Nat → Nat → Int64} {B : RB4} {T : Nat → Tr} {mt : Nat → Nat} {vl : Nat → Bool} {S : List Nat} {c : Nat} {l : List Nat} {v7 : Int32} (hn : 1000 ≤ n) (hB0 : B0.1 + 1300 ≤ 120000 ∧ B0.2.1 + 4000 ≤ 300000) (hP : rPr i0 a0 b0 B0 P) (h : SI dfn P i0 a0 b0 B0 k (st, K, tok, D, cw, ci, fr, 0, fp) i a b B T mt vl S lo) (hE : k ≤ E ∧ E ≤ 4000) (hc : c < 128 ∧ c ≠ 91 ∧ c ≠ 93) (hl : l.length = E - k) (hl0 : l ≠ []) (hok : okLs l) (h73 : ∀ x (h : x < l.length), a 73 (k + x) = nI (l[x]'h)) (h28 : (aPar l).1 = 1 → i 28 = Int32.ofInt (aPar l).2) (hRI : rdF (aTokP dfn P k l (st, K, tok + 1, D, cw, ci, fr, 0, fp)) = 0 → RI dfn P E (aTokP dfn P k l (st, K, tok + 1, D, cw, ci, fr, 0, fp))) : OUT n f N dfn P i0 a0 b0 B0 j E (aTokP dfn P k l (st, K, tok + 1, D, cw, ci, fr, 0, fp)) (m_Model_scan_b309 n (m_Model_scan_b35 n (f + 1)) i j a b (b1 dfn) (nI N) (nI S.length) (nI k) (nI c) (nI E) v7 (nI (aPar l).1)) := by
  have htok : tok ≤ 600 := h.1.2.2.2.2.2.2.1
  have h81 : i 81 = nI tok := h.1.2.2.2.2.2.1
  have hlS : S.length + 1 = K.length := h.2.2.1.2.1.1
  have e352 : ∀ v8 : Int32, m_Model_scan_b352 n (m_Model_scan_b35 n (f + 1)) i j a b (b1 dfn) (nI N) (nI S.length) (nI k) (nI c) (nI E) v7 v8 = m_Model_scan_b396 n (m_Model_scan_b35 n (f + 1)) i j a b (b1 dfn) (nI N) (nI S.length) (nI k) (nI c) (nI E) v7 v8 := fun v8 => by
    unfold m_Model_scan_b352 m_Model_scan_b373
    rw [show (93 : Int32) = nI 93 from rfl, ieq_n (by omega), show (91 : Int32) = nI 91 from rfl, ieq_n (by omega)]
  unfold m_Model_scan_b309
  rcases aPar_cases l with c3 | c3 | ⟨z, c3, z1, z2⟩
  · have eT : aTokP dfn P k l (st, K, tok + 1, D, cw, ci, fr, 0, fp) = (if 30 < l.length then rdBad 3 k (st, K, tok + 1, D, cw, ci, fr, 0, fp) else if 600 < tok + 1 then rdBad 6 k (st, K, tok + 1, D, cw, ci, fr, 0, fp) else aPlain dfn P k (tW l) (st, K, tok + 1, D, cw, ci, fr, 0, fp)) := by
      unfold aTokP
      rw [c3]
      rfl
    rw [eT] at hRI ⊢
    rw [c3]
    dsimp only at hRI ⊢
    rw [if_neg (show ¬ nI 0 = (2 : Int32) by decide), if_pos (show nI 0 = (0 : Int32) from rfl), sub_n (by omega), ← hl, show (30 : Int32) = nI 30 from rfl]
    rcases Classical.em (30 < l.length) with c4 | c4
    · rw [ile_n (by omega), if_pos c4]
      exact OUT_bad (kd := 3) h (by decide)
    rw [if_neg c4] at hRI ⊢
    rw [ile_p (by omega), e352]
    unfold m_Model_scan_b396
    rw [h81, show (600 : Int32) = nI 600 from rfl]
    rcases Classical.em (tok = 600) with c5 | c5
    · rw [ieq_p c5, if_pos (show 600 < tok + 1 by omega)]
      exact OUT_bad (kd := 6) h (by decide)
    rw [ieq_n (by omega)]
    rw [if_neg (show ¬ 600 < tok + 1 by omega)] at hRI ⊢
    obtain ⟨i', a', b', B', T', mt', vl', q1, q2, ⟨q3, q4, q5, w, w1, w2, w3⟩, q6⟩ := r_tokW (n := n) (N := N) (v7 := v7) (rc := m_Model_scan_b35 n (f + 1)) (j := j) h hE (by show tok < 600; omega) hc hB0 hl hl0 (by omega) hok h73
    have q1 : m_Model_scan_b414 n (m_Model_scan_b35 n (f + 1)) i j a b (b1 dfn) (nI N) (nI S.length) (nI k) (nI c) (nI E) v7 (nI 0) = _ := q1
    rw [q1]
    exact OUT_val hn (by omega) hB0.1 hP q2 h.2.1.1 hlS ⟨q3, q4, q5⟩ ⟨isL_tW l, by have w1 : b' 80 tok = vW w := w1; rw [w1]; exact rV_word w2, fun l' e => by
      have : l' = l := by have := congrArg tLet e; rw [tLet_tW, tLet_tW] at this; exact this.symm
      subst this
      exact ⟨w, w1, w2, w3⟩⟩ q6 hRI
  · have eT : aTokP dfn P k l (st, K, tok + 1, D, cw, ci, fr, 0, fp) = rdBad 2 k (st, K, tok + 1, D, cw, ci, fr, 0, fp) := by
      unfold aTokP
      rw [c3]
      rfl
    rw [eT]
    rw [c3]
    dsimp only
    rw [if_pos (show nI 2 = (2 : Int32) from rfl)]
    exact OUT_bad (kd := 2) h (by decide)
  · have h28 := h28 (by rw [c3])
    have eT : aTokP dfn P k l (st, K, tok + 1, D, cw, ci, fr, 0, fp) = (if 600 < tok + 1 then rdBad 6 k (st, K, tok + 1, D, cw, ci, fr, 0, fp) else aPlain dfn P k (tN z) (st, K, tok + 1, D, cw, ci, fr, 0, fp)) := by
      unfold aTokP
      rw [c3]
      rfl
    rw [eT] at hRI ⊢
    rw [c3] at h28 ⊢
    dsimp only at hRI h28 ⊢
    rw [if_neg (show ¬ nI 1 = (2 : Int32) by decide), if_neg (show ¬ nI 1 = (0 : Int32) by decide), e352]
    unfold m_Model_scan_b396
    rw [h81, show (600 : Int32) = nI 600 from rfl]
    rcases Classical.em (tok = 600) with c5 | c5
    · rw [ieq_p c5, if_pos (show 600 < tok + 1 by omega)]
      exact OUT_bad (kd := 6) h (by decide)
    rw [ieq_n (by omega)]
    rw [if_neg (show ¬ 600 < tok + 1 by omega)] at hRI ⊢
    obtain ⟨i', a', b', B', T', mt', vl', q1, q2, ⟨q3, q4, q5, q5'⟩, q6⟩ := r_tokN (n := n) (N := N) (v7 := v7) (rc := m_Model_scan_b35 n (f + 1)) (j := j) h hE (by show tok < 600; omega) hc ⟨z1, z2⟩ h28
    have q1 : m_Model_scan_b414 n (m_Model_scan_b35 n (f + 1)) i j a b (b1 dfn) (nI N) (nI S.length) (nI k) (nI c) (nI E) v7 (nI 1) = _ := q1
    rw [q1]
    exact OUT_val hn (by omega) hB0.1 hP q2 h.2.1.1 hlS ⟨q3, q4, q5⟩ ⟨rfl, q5', fun l' e => by
      have := congrArg isW e
      rw [isW_tW] at this
      cases this⟩ q6 hRI
/-- a token -/
theorem r_token {n f N : Nat} {dfn : Bool} {k lo : Nat} {r : Rd} {tp : Nat → Nat} {P : List Proc} {i0 : Nat → Int32} {a0 : Nat → Nat → Int32} {b0 : Nat → Nat → Int64} {B0 : RB4} {i : Nat → Int32} {j : Nat → Int64} {a : Nat → Nat → Int32} {b : Nat → Nat → Int64} {B : RB4} {T : Nat → Tr} {mt : Nat → Nat} {vl : Nat → Bool} {S : List Nat} (hn : 5000 ≤ n) (hB0 : B0.1 + 1300 ≤ 120000 ∧ B0.2.1 + 4000 ≤ 300000) (hP : rPr i0 a0 b0 B0 P) (h : SI dfn P i0 a0 b0 B0 k r i a b B T mt vl S lo) (hN : N ≤ 4000) (hkN : k < N) (h73 : ∀ x, x < N → a 73 x = sBy (tp x)) (hc : 33 ≤ tp k ∧ tp k ≤ 126) : OUT n f N dfn P i0 a0 b0 B0 j (aTE tp N k) (aTok dfn P k (aTxt tp k (aTE tp N k)) r) (m_Model_scan_b285 n (m_Model_scan_b35 n (f + 1)) i j a b (b1 dfn) (nI N) (nI S.length) (nI k) (nI (tp k)) (nI (aTE tp N k)) (b1 (aAlone (tp k) || (tp k == 45 && !aDash tp N k)))) := by
  have hf : rdF r = 0 := h.2.1.2
  have hte := aTE_le (tp := tp) hkN
  have hRI : rdF (aTok dfn P k (aTxt tp k (aTE tp N k)) r) = 0 → RI dfn P (aTE tp N k) (aTok dfn P k (aTxt tp k (aTE tp N k)) r) := fun hg => (RI_tok hP.2.1 h.2.1.1 h.1.2.2.2.2.2.2.1 hf hkN hc.1 hc.2 hg).1
  have hokl := aTxt_ok hkN hc.1 hc.2
  have hlen := aTxt_len tp k (aTE tp N k)
  have h73l : ∀ x (hx : x < (aTxt tp k (aTE tp N k)).length), a 73 (k + x) = nI ((aTxt tp k (aTE tp N k))[x]'hx) := fun x hx => by
    have h9 := hokl _ (List.getElem_mem hx)
    rw [aTxt_at] at h9 ⊢
    rw [hlen] at hx
    rw [h73 _ (by omega), sBy_n (by omega)]
  have hhd : (aTxt tp k (aTE tp N k)).head? = some (tp k) := by
    rw [List.head?_eq_getElem?, List.getElem?_eq_getElem (by rw [hlen]; omega), aTxt_at]
    rfl
  have hl0 : aTxt tp k (aTE tp N k) ≠ [] := fun e => by rw [e] at hhd; cases hhd
  have hE1 : (aAlone (tp k) || (tp k == 45 && !aDash tp N k)) = true → aTE tp N k = k + 1 ∧ aTxt tp k (aTE tp N k) = [tp k] := fun e => by
    have e1 : aTE tp N k = k + 1 := by unfold aTE; rw [if_pos e]
    refine ⟨e1, ?_⟩
    rw [e1] at hhd hlen ⊢
    rw [show k + 1 - k = 1 by omega] at hlen
    match hq : aTxt tp k (k + 1), hlen, hhd with
    | [x], _, h2 => rw [List.head?_cons] at h2; rw [Option.some.inj h2]
  generalize eE : aTE tp N k = E at *
  generalize el : aTxt tp k E = l at *
  generalize esg : (aAlone (tp k) || (tp k == 45 && !aDash tp N k)) = sg at *
  obtain ⟨st, K, tok, D, cw, ci, fr, fk, fp⟩ := r
  have hf : fk = 0 := hf
  subst hf
  have htok : tok ≤ 600 := h.1.2.2.2.2.2.2.1
  have h81 : i 81 = nI tok := h.1.2.2.2.2.2.1
  have hlS : S.length + 1 = K.length := h.2.2.1.2.1.1
  have hS20 : S.length ≤ 20 := h.2.2.1.2.1.2
  unfold aTok at hRI ⊢
  dsimp only at hRI ⊢
  rw [hhd] at hRI ⊢
  have e309 : sg = true → ∀ c : Int32, m_Model_scan_b285 n (m_Model_scan_b35 n (f + 1)) i j a b (b1 dfn) (nI N) (nI S.length) (nI k) c (nI E) (b1 sg) = m_Model_scan_b309 n (m_Model_scan_b35 n (f + 1)) i j a b (b1 dfn) (nI N) (nI S.length) (nI k) c (nI E) 1 0 := fun e c => by
    unfold m_Model_scan_b285
    rw [e, if_neg (by decide)]
    rfl
  have e352 : sg = true → ∀ c : Int32, m_Model_scan_b309 n (m_Model_scan_b35 n (f + 1)) i j a b (b1 dfn) (nI N) (nI S.length) (nI k) c (nI E) 1 0 = m_Model_scan_b352 n (m_Model_scan_b35 n (f + 1)) i j a b (b1 dfn) (nI N) (nI S.length) (nI k) c (nI E) 1 0 := fun e c => by
    unfold m_Model_scan_b309
    rw [if_neg (by decide), if_pos rfl, (hE1 e).1, sub_n (by omega), show k + 1 - k = 1 by omega, if_pos (by decide)]
  rcases Classical.em (tp k = 91) with c1 | c1
  · have hsg : sg = true := by rw [← esg, c1]; rfl
    rw [if_pos (by rw [c1])] at hRI ⊢
    rw [c1, e309 hsg, e352 hsg]
    unfold m_Model_scan_b352 m_Model_scan_b373
    rw [if_neg (show ¬ nI 91 = (93 : Int32) by decide), if_pos (show nI 91 = (91 : Int32) from rfl), show (20 : Int32) = nI 20 from rfl]
    unfold aTokO at hRI ⊢
    dsimp only at hRI ⊢
    rcases Classical.em (S.length = 20) with c2 | c2
    · rw [ieq_p c2, if_pos (show 20 < K.length by omega)]
      exact OUT_bad (kd := 5) h (by decide)
    rw [if_neg (show ¬ 20 < K.length by omega)] at hRI ⊢
    rw [ieq_n (by omega)]
    unfold m_Model_scan_b396
    rw [h81, show (600 : Int32) = nI 600 from rfl]
    rcases Classical.em (tok = 600) with c5 | c5
    · rw [ieq_p c5, if_pos (show 600 < tok + 1 by omega)]
      exact OUT_bad (kd := 6) h (by decide)
    rw [ieq_n (by omega)]
    rw [if_neg (show ¬ 600 < tok + 1 by omega)] at hRI ⊢
    obtain ⟨i', a', b', T', mt', vl', q1, q2, q3, q4⟩ := r_tokO (n := n) (N := N) (rc := m_Model_scan_b35 n (f + 1)) (j := j) h (show k ≤ E ∧ E ≤ 4000 by omega) (by show tok < 600; omega) (by omega)
    have q1 : m_Model_scan_b414 n (m_Model_scan_b35 n (f + 1)) i j a b (b1 dfn) (nI N) (nI S.length) (nI k) (nI 91) (nI E) 1 0 = _ := q1
    rw [q1]
    refine OUT_n (S := tok :: S) q2 h.2.1.1 (fun _ => Or.inl q3) (fun e => ?_) (fun e => ?_) (fun hs => ?_) (fun hs => ?_) hRI
    · rw [if_pos e]; rfl
    · rw [if_neg (by omega), if_pos e]; rfl
    · have := h.2.1.1.1
      rw [if_neg (by omega), if_neg (by omega), aCI_1 (by dsimp only at this; omega)]
      exact ⟨rfl, rfl, rfl, rfl, rfl, rfl, rfl⟩
    · have := h.2.1.1.1
      rw [if_neg (by omega), if_neg (by omega), aCI_1 (by dsimp only at this; omega)]
      exact q4 hs
  rw [if_neg (fun e => c1 (Option.some.inj e))] at hRI ⊢
  rcases Classical.em (tp k = 93) with c2 | c2
  · have hsg : sg = true := by rw [← esg, c2]; rfl
    rw [if_pos (by rw [c2])] at hRI ⊢
    rw [c2, e309 hsg, e352 hsg]
    unfold m_Model_scan_b352 m_Model_scan_b373
    rw [if_pos (show nI 93 = (93 : Int32) from rfl)]
    unfold aTokC at hRI ⊢
    dsimp only at hRI ⊢
    cases S with
    | nil =>
      rw [if_pos (show nI ([] : List Nat).length = (0 : Int32) from rfl)]
      have : ∃ m, K = [m] := by
        match K, hlS with
        | [m], _ => exact ⟨m, rfl⟩
      obtain ⟨m, em⟩ := this
      subst em
      exact OUT_bad (kd := 4) h (by decide)
    | cons s S =>
      rw [List.length_cons] at hlS hS20 ⊢
      rw [if_neg (show ¬ nI (S.length + 1) = (0 : Int32) from fun e => by have := (nI_eq (b := 0) (by omega) (by decide)).mp e; omega), if_neg (show ¬ nI 93 = (91 : Int32) by decide)]
      have : ∃ m m2 R, K = m :: m2 :: R := by
        match K, hlS with
        | m :: m2 :: R, _ => exact ⟨m, m2, R, rfl⟩
      obtain ⟨m0, m20, R0, em⟩ := this
      unfold m_Model_scan_b396
      rw [h81, show (600 : Int32) = nI 600 from rfl]
      subst em
      dsimp only at hRI ⊢
      rcases Classical.em (tok = 600) with c5 | c5
      · rw [ieq_p c5, if_pos (show 600 < tok + 1 by omega)]
        exact OUT_bad (kd := 6) h (by decide)
      rw [ieq_n (by omega)]
      rw [if_neg (show ¬ 600 < tok + 1 by omega)] at hRI ⊢
      obtain ⟨i', a', b', T', mt', vl', m, m2, R, q1, q2, q3, q4, q5, q6⟩ := r_tokC (n := n) (N := N) (rc := m_Model_scan_b35 n (f + 1)) (j := j) h (show k ≤ E ∧ k ≤ 4000 ∧ E ≤ 4000 by omega) (by show tok < 600; omega)
      have q5 : m0 :: m20 :: R0 = m :: m2 :: R := q5
      have q4 : st = 3 := q4
      injection q5 with q5a q5b
      injection q5b with q5b q5c
      subst q5a
      subst q5b
      subst q5c
      subst q4
      have q1 : m_Model_scan_b414 n (m_Model_scan_b35 n (f + 1)) i j a b (b1 dfn) (nI N) (nI (S.length + 1)) (nI k) (nI 93) (nI E) 1 0 = _ := q1
      rw [q1]
      exact OUT_n q2 h.2.1.1 (fun _ => Or.inl q3) (fun e => absurd e (by decide)) (fun e => absurd e (by decide)) (fun _ => ⟨rfl, rfl, rfl, rfl, rfl, rfl, rfl⟩) (fun _ => q6) hRI
  rw [if_neg (fun e => c2 (Option.some.inj e))] at hRI ⊢
  cases hs : sg with
  | true =>
    have hs2 := hE1 hs
    have hd : aDigit (tp k) = false := by
      rw [hs] at esg
      unfold aAlone at esg
      unfold aDigit
      apply decide_eq_false
      intro hd
      rw [Bool.or_eq_true] at esg
      simp only [Bool.or_eq_true, beq_iff_eq, Bool.and_eq_true] at esg
      omega
    have h0 : (aPar l).1 = 0 := by rw [hs2.2]; exact aPar_one hd
    rw [← hs, e309 hs]
    have q := r_tokP (n := n) (f := f) (N := N) (c := tp k) (l := l) (v7 := 1) (j := j) (by omega) hB0 hP h (show k ≤ E ∧ E ≤ 4000 by omega) ⟨by omega, c1, c2⟩ hlen hl0 hokl h73l (fun e => by omega) hRI
    rw [h0] at q
    exact q
  | false =>
    unfold m_Model_scan_b285
    rw [if_pos (show b1 false = (0 : Int32) from rfl), sub_n (by omega), ← hlen]
    obtain ⟨i', q1, q2, q3⟩ := r_num_v73 (n := n) (i := i) (j := j) (a := a) (b := b) (p := k) (l := l) (by omega) (by omega) (by omega) (fun c hc => (hokl c hc).2) h73l
    rw [q1, om_s]
    exact r_tokP (n := n) (f := f) (N := N) (c := tp k) (l := l) (v7 := b1 false) (j := j) (by omega) hB0 hP (SI_28 h q2) (show k ≤ E ∧ E ≤ 4000 by omega) ⟨by omega, c1, c2⟩ hlen hl0 hokl h73l q3 hRI

