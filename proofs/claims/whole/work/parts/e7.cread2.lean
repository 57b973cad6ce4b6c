/-! the class reads the tape -/
def FIN (g : Nat → Nat) (i : Nat → Int32) (a : Nat → Nat → Int32) (Ts : Nat) (dfn : Bool) (B N : Nat) (rE : Rd) (g' : Nat → Nat) (i' : Nat → Int32) (a' : Nat → Nat → Int32) (kk : Nat × Nat) : Prop :=
  hGrow g g' kk ∧ i' 24 = nI 0 ∧ (∀ q, q ≠ 8 → ¬ (24 ≤ q ∧ q ≤ 34) → i' q = i q) ∧ (∀ q, q ≠ 0 → ¬ (32 ≤ q ∧ q ≤ 36) → a' q = a q) ∧ (∀ x, x < Ts → a' 0 x = a 0 x) ∧
  (rdF rE = 0 → ∃ T', Ts ≤ T' ∧ T' ≤ B + 4 * N ∧ (T' ≤ g' 0 ∧ sA (a' 0) T' = 0) ∧ i' 8 = nI T' ∧ i' 26 = nI 0 ∧ (dfn = false → cV (a' 0) T' (tL ((rdK rE).headD [])) none (i' 27)) ∧ (dfn = true → dfR (a' 0) T' (a' 34) (a' 35) (a' 36) (rdD rE) ∧ i' 33 = nI (rdD rE).length ∧ (rdD rE).length ≤ 200)) ∧
  (rdF rE ≠ 0 → i' 8 = nI Ts ∧ i' 26 = nI (rdF rE) ∧ i' 25 = nI (rdP rE))
def rSt (g : Nat → Nat) (i : Nat → Int32) (a : Nat → Nat → Int32) (T : Nat) (dfn : Bool) (P : List Proc) (B k : Nat) (r : Rd) : Prop := (rdF r = 0 → RB g i a T dfn P B k 0 0 0 0 r ∧ r.2.2.1 ≤ 600) ∧ (rdF r ≠ 0 → i 26 = nI (rdF r) ∧ i 25 = nI (rdP r) ∧ FL g i a T dfn P) ∧ rdF r < 100
theorem h_158_of {n q : Nat} {g : Nat → Nat} {i : Nat → Int32} {a : Nat → Nat → Int32} {i2 : Nat → Int32} {a2 : Nat → Nat → Int32} {g2 : Nat → Nat} {k2 : Nat × Nat} {v2 : Int32} (h : m_Reader_readEnd n g i a = some (i2, a2, g2, k2, nI 0)) (h26 : i2 26 = nI q) (hq : q < 100) : m_Reader_read_b158 n i a g v2 = some (upd (if q = 0 then i2 else upd i2 8 v2) 24 (nI 0), a2, g2, (k2.1 + 0, k2.2 + 0), if q = 0 then nI 1 else nI 0) := by
  unfold m_Reader_read_b158 m_Reader_read_b177
  rw [h]
  refine obG_s (k' := (0, 0)) ?_
  rw [h26]
  rcases Classical.em (q = 0) with c | c
  · subst c
    rw [if_pos (show nI 0 = (0 : Int32) from rfl), if_pos rfl, if_pos rfl, ob1_s, if_pos (show upd i2 24 0 26 = (0 : Int32) from h26)]
    rfl
  · have nn : ¬ nI q = (0 : Int32) := fun e => c ((nI_eq (b := 0) (by omega) (by omega)).mp e)
    rw [if_neg nn, if_neg c, if_neg c, ob1_s, ob1_s, if_neg (show ¬ upd (upd i2 8 v2) 24 0 26 = (0 : Int32) from fun e => nn (h26.symm.trans e))]
    rfl
theorem FIN_bad {g : Nat → Nat} {i : Nat → Int32} {a : Nat → Nat → Int32} {T Ts B N q : Nat} {dfn : Bool} {rE : Rd} {i2 : Nat → Int32} {a2 : Nat → Nat → Int32} {g2 : Nat → Nat} {k2 : Nat × Nat} (hG : hGrow g g2 k2) (hf : rFrm i a T i2 a2) (hT : Ts ≤ T) (hq : q ≠ 0) (h1 : rdF rE = q) (h26 : i2 26 = nI q) (h25 : i2 25 = nI (rdP rE)) : FIN g i a Ts dfn B N rE g2 (upd (if q = 0 then i2 else upd i2 8 (nI Ts)) 24 (nI 0)) a2 (k2.1 + 0, k2.2 + 0) := by
  rw [if_neg hq]
  obtain ⟨f1, f2, f3⟩ := hf
  refine ⟨hG, upd_at, fun q h1 h2 => ?_, fun q h1 h2 => f2 q h1 h2, fun x hx => f3 x (by omega), fun hh => absurd (h1.symm.trans hh) hq, fun _ => ⟨rfl, ?_, ?_⟩⟩
  · rw [upd_ne (by omega), upd_ne h1]
    exact f1 q h1 (by omega)
  · show i2 26 = _
    rw [h26, h1]
  · exact h25
theorem h_158 {n : Nat} {g : Nat → Nat} {i : Nat → Int32} {a : Nat → Nat → Int32} {T Ts B k N : Nat} {dfn : Bool} {P : List Proc} {r : Rd} {tp : Nat → Nat} (hn : 10000 ≤ n) (h : rSt g i a T dfn P B k r) (hp : tpR i a tp N) (hk : k ≤ N) (hB : B + 16001 ≤ 340000) (hT : Ts ≤ T) : ∃ i' a' g' kk, m_Reader_read_b158 n i a g (nI Ts) = some (i', a', g', kk, if rdF (aRdEnd dfn N r) = 0 then nI 1 else nI 0) ∧ FIN g i a Ts dfn B N (aRdEnd dfn N r) g' i' a' kk := by
  obtain ⟨hA, hF, h100⟩ := h
  have h24 := hp.1
  have hN := hp.2.1
  rcases Classical.em (rdF r = 0) with c0 | c0
  · obtain ⟨hR, ht⟩ := hA c0
    obtain ⟨st, K, tok, D, cw, ci, fr, fk, fp⟩ := r
    have c0' : fk = 0 := c0
    subst c0'
    dsimp only at ht
    have hg : g 0 ≤ 340000 := hR.1.2.2.2.2.1
    have h26 : i 26 = nI 0 := hR.2.1.1
    have h28 : i 28 = nI (kHt K) := hR.2.1.2.1
    have h29 : i 29 = nI (K.length - 1) := hR.2.1.2.2.1
    have h31 : i 31 = b1 dfn := hR.2.1.2.2.2.2.1
    have h32 : i 32 = nI st := hR.2.1.2.2.2.2.2.1
    have h33 : i 33 = nI D.length := hR.2.1.2.2.2.2.2.2.1
    obtain ⟨s1, s2, s3, s4, s5, s6, s7, s8, s9, s10, s11, s12, s13, s14⟩ := hR.2.2.2
    dsimp only at s1 s2 s3 s4 s5 s6 s7 s8 s9 s10 s11 s12 s13 s14
    have blame : ∀ (q : Nat), q ≠ 0 → q < 100 → m_Reader_readEnd n g i a = some (upd (upd i 26 (nI q)) 25 (nI N), a, g, (0, 0), nI 0) → ∃ i' a' g' kk, m_Reader_read_b158 n i a g (nI Ts) = some (i', a', g', kk, if rdF (rdBad q N (st, K, tok, D, cw, ci, fr, 0, fp)) = 0 then nI 1 else nI 0) ∧ FIN g i a Ts dfn B N (rdBad q N (st, K, tok, D, cw, ci, fr, 0, fp)) g' i' a' kk := by
      intro q hq hq2 he
      exact ⟨_, _, _, _, h_158_of he (q := q) rfl hq2, FIN_bad (T := T) (hGrow_refl hg) ⟨fun q h1 h2 => by rw [upd_ne (by omega), upd_ne (by omega)], fun _ _ _ => rfl, fun _ _ => rfl⟩ hT hq rfl rfl rfl⟩
    rcases Nat.lt_or_ge 1 K.length with c1 | c1
    · have eE : aRdEnd dfn N (st, K, tok, D, cw, ci, fr, 0, fp) = rdBad 4 N (st, K, tok, D, cw, ci, fr, 0, fp) := by
        unfold aRdEnd
        rw [if_neg (not_not_intro c0)]
        exact if_pos c1
      rw [eE]
      refine blame 4 (by decide) (by decide) ?_
      unfold m_Reader_readEnd
      rw [h29, if_neg (show ¬ nI (K.length - 1) ≤ (0 : Int32) from nI_ge (a := 0) (by omega) (by omega)), show (4 : Int32) = nI 4 from rfl, h_blame h26, ob_s, h24]
      rfl
    have eE : aRdEnd dfn N (st, K, tok, D, cw, ci, fr, 0, fp) = if dfn = false ∨ st = 0 then (st, K, tok, D, cw, ci, fr, 0, fp) else if st = 1 then rdBad 8 N (st, K, tok, D, cw, ci, fr, 0, fp) else rdBad 10 N (st, K, tok, D, cw, ci, fr, 0, fp) := by
      unfold aRdEnd
      rw [if_neg (not_not_intro c0)]
      exact if_neg (show ¬ 1 < K.length from by omega)
    rw [eE]
    clear eE
    have hl : K.length = 1 := by
      cases K with
      | nil => exact absurd rfl s1
      | cons a b => simp at c1 ⊢; exact c1
    have e29 : i 29 ≤ (0 : Int32) := by rw [h29, hl]; decide
    cases dfn with
    | false =>
      rw [if_pos (Or.inl rfl)]
      have h3 : st = 3 := s13 rfl
      subst h3
      cases K with
      | nil => exact absurd rfl s1
      | cons m R =>
      cases R with
      | cons m2 R => simp at hl
      | nil =>
        have eh : kHt [m] = m.length := by rw [kHt, kHt]; omega
        have esh : kSh [m] = shL m := by rw [kSh, kSh]; rfl
        have edp : kDp [m] = dpL m := by rw [kDp, kDp]; rfl
        rw [eh] at h28 s3 s8
        rw [esh] at s4
        rw [edp] at s5
        rw [show pend 3 = 1 from rfl] at s8
        have hr := hR.2.2.1.1
        have rr : ∀ k (h : k < m.length), cV (a 0) T (m[k]'h) none (a 32 (0 + k)) := fun k hk => by
          have := hr.1 k hk
          rw [show kHt [] + k = 0 + k from rfl] at this
          exact this
        obtain ⟨f9, g', kk, q1, q2, q3, q4, q5⟩ := h_newListOf_a32 (n := n) (g := g) (i := i) (a := a) (T := T) (p := 0) (ms := m) hn hR.1.1 hR.1.2.2.1 (by have := hR.1.2.1; omega) (by omega) hR.1.2.2.2.1 hg (by omega) (list_fits rr (by omega) (by omega)) (by omega) rr
        have he : m_Reader_readEnd n g i a = some (upd (upd i 8 (nI (T + 1 + m.length))) 27 (nI (4 * T + 1)), updA a 0 f9, g', (kk.1 + 0, kk.2 + 0), nI 0) := by
          unfold m_Reader_readEnd
          rw [if_pos e29, h31, if_pos (show b1 false = (0 : Int32) from rfl), h28, show (0 : Int32) = nI 0 from rfl, q1]
          refine obG_s (k' := (0, 0)) ?_
          rw [ob1_s, upd_at, if_neg (show ¬ nI (4 * T + 1) = (-2147483648 : Int32) from cV_no (by omega) q3)]
        refine ⟨_, _, _, _, h_158_of he (q := 0) h26 (by decide), q5, upd_at, fun q h1 h2 => ?_, fun q h1 h2 => updA_ne h1, fun x hx => q2 x (by omega), fun _ => ⟨T + 1 + m.length, by omega, by omega, q4, rfl, h26, fun _ => q3, (fun hh => by cases hh)⟩, fun hh => absurd rfl hh⟩
        rw [if_pos rfl, upd_ne (by omega), upd_ne (by omega), upd_ne h1]
    | true =>
      have n31 : ¬ b1 true = (0 : Int32) := fun e => absurd ((nI_eq (a := 1) (b := 0) (by omega) (by omega)).mp e) (by decide)
      rcases Classical.em (st = 0) with c2 | c2
      · subst c2
        rw [if_pos (Or.inr rfl)]
        have he : m_Reader_readEnd n g i a = some (i, a, g, (0, 0), nI 0) := by
          unfold m_Reader_readEnd
          rw [if_pos e29, h31, if_neg n31, h32, if_pos (show nI 0 = (0 : Int32) from rfl)]
          rfl
        rw [if_pos rfl] at s6
        refine ⟨_, _, _, _, h_158_of he (q := 0) h26 (by decide), hGrow_refl hg, upd_at, fun q h1 h2 => ?_, fun _ _ _ => rfl, fun _ _ => rfl, fun _ => ⟨T, hT, by omega, ⟨hR.1.2.2.1, hR.1.2.1.2⟩, hR.1.1, h26, (fun hh => by cases hh), fun _ => ⟨hR.2.2.1.2.1, h33, ?_⟩⟩, fun hh => absurd rfl hh⟩
        · rw [if_pos rfl, upd_ne (by omega)]
        · show D.length ≤ 200
          omega
      rw [if_neg (show ¬ ((true = false) ∨ st = 0) from fun hh => hh.elim (fun q => by cases q) c2)]
      rcases Classical.em (st = 1) with c3 | c3
      · rw [if_pos c3]
        refine blame 8 (by decide) (by decide) ?_
        unfold m_Reader_readEnd
        rw [if_pos e29, h31, if_neg n31, h32, c3, if_neg (show ¬ nI 1 = (0 : Int32) from by decide), if_pos (show nI 1 = (1 : Int32) from rfl), show (8 : Int32) = nI 8 from rfl, h_blame h26, ob_s, h24]
        rfl
      · rw [if_neg c3]
        refine blame 10 (by decide) (by decide) ?_
        unfold m_Reader_readEnd
        rw [if_pos e29, h31, if_neg n31, h32, if_neg (show ¬ nI st = (0 : Int32) from fun e => c2 ((nI_eq (b := 0) (by omega) (by omega)).mp e)), if_neg (show ¬ nI st = (1 : Int32) from fun e => c3 ((nI_eq (b := 1) (by omega) (by omega)).mp e)), show (10 : Int32) = nI 10 from rfl, h_blame h26, ob_s, h24]
        rfl
  · obtain ⟨h26, h25, hG, h31, ⟨d, hd, h29⟩, ⟨st, hst, h32⟩, ms, h28, h600, hroom, hcv, hsh, hdp⟩ := hF c0
    have hg : g 0 ≤ 340000 := hG.2.2.2.2.1
    have eE : aRdEnd dfn N r = r := by unfold aRdEnd; rw [if_pos c0]
    rw [eE]
    have done1 : ∀ (i2 : Nat → Int32) (a2 : Nat → Nat → Int32) (g2 : Nat → Nat) (k2 : Nat × Nat), m_Reader_readEnd n g i a = some (i2, a2, g2, k2, nI 0) → hGrow g g2 k2 → rFrm i a T i2 a2 → i2 26 = nI (rdF r) → i2 25 = nI (rdP r) → ∃ i' a' g' kk, m_Reader_read_b158 n i a g (nI Ts) = some (i', a', g', kk, if rdF r = 0 then nI 1 else nI 0) ∧ FIN g i a Ts dfn B N r g' i' a' kk := by
      intro i2 a2 g2 k2 he hG2 hf2 w1 w2
      exact ⟨_, _, _, _, h_158_of he w1 h100, FIN_bad hG2 hf2 hT c0 rfl w1 w2⟩
    have nob : ∀ {k p : Int32}, m_Reader_blame n g i a k p = some (i, a, nI 0) := fun {k p} => h_blame_no h26 c0 h100
    rcases Nat.eq_zero_or_pos d with c1 | c1
    · subst c1
      have e29 : i 29 ≤ (0 : Int32) := by rw [h29]; decide
      cases dfn with
      | false =>
        obtain ⟨f9, g', kk, q1, q2, q3, q4, q5⟩ := h_newListOf_a32 (n := n) (g := g) (i := i) (a := a) (T := T) (p := 0) (ms := ms) hn hG.1 hG.2.2.1 (by have := hG.2.1; omega) (by omega) hG.2.2.2.1 hg h600 (list_fits hcv hsh hdp) (by omega) (fun k hk => by rw [Nat.zero_add]; exact hcv k hk)
        refine done1 (upd (upd i 8 (nI (T + 1 + ms.length))) 27 (nI (4 * T + 1))) (updA a 0 f9) g' (kk.1 + 0, kk.2 + 0) ?_ q5 ⟨fun q h1 h2 => by rw [upd_ne (by omega), upd_ne h1], fun q h1 h2 => updA_ne h1, fun x hx => q2 x hx⟩ h26 h25
        unfold m_Reader_readEnd
        rw [if_pos e29, h31, if_pos (show b1 false = (0 : Int32) from rfl), h28, show (0 : Int32) = nI 0 from rfl, q1]
        refine obG_s (k' := (0, 0)) ?_
        rw [ob1_s, upd_at, if_neg (show ¬ nI (4 * T + 1) = (-2147483648 : Int32) from cV_no (by omega) q3)]
      | true =>
        have n31 : ¬ b1 true = (0 : Int32) := fun e => absurd ((nI_eq (a := 1) (b := 0) (by omega) (by omega)).mp e) (by decide)
        refine done1 i a g (0, 0) ?_ (hGrow_refl hg) rFrm_refl h26 h25
        unfold m_Reader_readEnd
        rw [if_pos e29, h31, if_neg n31, nob, ob_s, nob, ob_s]
        split
        · rfl
        · split <;> rfl
    · refine done1 i a g (0, 0) ?_ (hGrow_refl hg) rFrm_refl h26 h25
      unfold m_Reader_readEnd
      rw [h29, if_neg (show ¬ nI d ≤ (0 : Int32) from nI_ge (a := 0) (by omega) (by omega)), nob, ob_s]
      rfl
theorem FIN_up {g : Nat → Nat} {i : Nat → Int32} {a : Nat → Nat → Int32} {i' : Nat → Int32} {a' : Nat → Nat → Int32} {g' : Nat → Nat} {k : Nat × Nat} {T Ts B N : Nat} {dfn : Bool} {rE : Rd} {i2 : Nat → Int32} {a2 : Nat → Nat → Int32} {g2 : Nat → Nat} {k2 : Nat × Nat} (hG : hGrow g g' k) (hT : Ts ≤ T) (hf : rFrm i a T i' a') (h : FIN g' i' a' Ts dfn B N rE g2 i2 a2 k2) : FIN g i a Ts dfn B N rE g2 i2 a2 (k.1 + k2.1, k.2 + k2.2) := by
  obtain ⟨z1, z2, z3, z4, z5, z6⟩ := h
  obtain ⟨f1, f2, f3⟩ := hf
  exact ⟨hGrow_trans hG z1, z2, fun q h1 h2 => (z3 q h1 h2).trans (f1 q h1 (by omega)), fun q h1 h2 => (z4 q h1 h2).trans (f2 q h1 h2), fun x hx => (z5 x hx).trans (f3 x (by omega)), z6⟩
theorem RB_on {g : Nat → Nat} {i : Nat → Int32} {a : Nat → Nat → Int32} {T B k k' : Nat} {dfn : Bool} {P : List Proc} {r : Rd} (h : RB g i a T dfn P B k 0 0 0 0 r) (hk : k ≤ k') : RB g i a T dfn P B k' 0 0 0 0 r := by
  obtain ⟨hG, hI, hR, ⟨s1, s2, s3, s4, s5, s6, s7, s8, s9⟩⟩ := h
  exact ⟨hG, hI, hR, ⟨s1, s2, s3, by omega, s5, s6, s7, by omega, s9⟩⟩
theorem rdF_ite {c : Prop} [Decidable c] {x y : Rd} (h1 : rdF x < 100) (h2 : rdF y < 100) : rdF (if c then x else y) < 100 := by
  split <;> assumption
theorem rdF_bad {q p : Nat} {r : Rd} (h : q < 100) : rdF (rdBad q p r) < 100 := h
theorem rdF_CI {r : Rd} (h : rdF r < 100) : rdF (aCI r) < 100 := by
  unfold aCI
  exact rdF_ite h h
theorem rdF_tok (dfn : Bool) (P : List Proc) (p : Nat) (l : List Nat) (r : Rd) (h : rdF r = 0) : rdF (aTok dfn P p l r) < 100 := by
  obtain ⟨st, K, tok, D, cw, ci, fr, fk, fp⟩ := r
  have h : fk = 0 := h
  subst h
  unfold aTok
  dsimp only
  have e0 : rdF (st, K, tok + 1, D, cw, ci, fr, 0, fp) < 100 := (by decide : 0 < 100)
  have e1 := rdF_CI e0
  have ePl : ∀ v, rdF (aPlain dfn P p v (st, K, tok + 1, D, cw, ci, fr, 0, fp)) < 100 := by
    intro v
    unfold aPlain
    refine rdF_ite (rdF_ite e0 (rdF_bad (by decide))) (rdF_ite ?_ (rdF_ite ?_ (rdF_ite e1 e1)))
    · unfold aName
      exact rdF_ite (rdF_bad (by decide)) (rdF_ite (rdF_bad (by decide)) (by decide : 0 < 100))
    · unfold aInput
      exact rdF_ite (rdF_bad (by decide)) e0
  refine rdF_ite ?_ (rdF_ite ?_ ?_)
  · unfold aTokO
    exact rdF_ite (rdF_bad (by decide)) (rdF_ite (rdF_bad (by decide)) (rdF_ite (rdF_bad (by decide)) (rdF_ite (rdF_bad (by decide)) e1)))
  · unfold aTokC
    dsimp only
    cases K with
    | nil => exact rdF_bad (by decide)
    | cons m R =>
    cases R with
    | nil => exact rdF_bad (by decide)
    | cons m2 R => exact rdF_ite (rdF_bad (by decide)) e0
  · unfold aTokP
    rcases aPar_cases l with c3 | c3 | ⟨z, c3, _⟩
    · rw [c3]
      exact rdF_ite (rdF_bad (by decide)) (rdF_ite (rdF_bad (by decide)) (ePl _))
    · rw [c3]
      exact rdF_bad (by decide)
    · rw [c3]
      exact rdF_ite (rdF_bad (by decide)) (ePl _)
theorem h_read_b {n Ts B N : Nat} {dfn : Bool} {P : List Proc} {tp : Nat → Nat} (hn : 10000 ≤ n) (hN : N ≤ 4000) (hB : B + 16001 ≤ 340000) : ∀ (m : Nat) (g : Nat → Nat) (i : Nat → Int32) (a : Nat → Nat → Int32) (T k q f : Nat) (cm : Bool) (r : Rd), N ≤ k + m → k ≤ N → q + m ≤ 4000 → m < f → rSt g i a T dfn P B k r → tpR i a tp N → Ts ≤ T → ∃ i' a' g' kk, m_Reader_read_b21 n f i a g (nI Ts) (b1 cm) (nI k) (nI q) = some (i', a', g', kk, if rdF (aRdEnd dfn N (aScan dfn P tp N (m + 1) k cm r)) = 0 then nI 1 else nI 0) ∧ FIN g i a Ts dfn B N (aRdEnd dfn N (aScan dfn P tp N (m + 1) k cm r)) g' i' a' kk := by
  intro m
  induction m with
  | zero =>
    intro g i a T k q f cm r h1 h2 h3 hf hS hp hT
    obtain ⟨f, rfl⟩ : ∃ f', f = f' + 1 := ⟨f - 1, by omega⟩
    have eS : aScan dfn P tp N (0 + 1) k cm r = r := by rw [aScan, if_pos (Or.inl (by omega))]
    rw [eS]
    have key := h_158 (Ts := Ts) hn hS hp h2 hB hT
    rw [m_Reader_read_b21, hp.1]
    simp only [i32_lit]
    rcases Nat.lt_or_ge q 4000 with c | c
    · rw [ile_n (by omega), ile_p (by omega)]; exact key
    · rw [ile_p (by omega)]; exact key
  | succ m ih =>
    intro g i a T k q f cm r h1 h2 h3 hf hS hp hT
    obtain ⟨f, rfl⟩ : ∃ f', f = f' + 1 := ⟨f - 1, by omega⟩
    have key := h_158 (Ts := Ts) hn hS hp h2 hB hT
    rw [m_Reader_read_b21, hp.1]
    simp only [i32_lit]
    rw [ile_n (by omega)]
    rcases Nat.lt_or_ge k N with c1 | c1
    rotate_left
    · have eS : aScan dfn P tp N (m + 1 + 1) k cm r = r := by rw [aScan, if_pos (Or.inl c1)]
      rw [eS, ile_p (by omega)]
      exact key
    rw [ile_n (by omega)]
    rcases Classical.em (rdF r = 0) with c0 | c0
    rotate_left
    · have eS : aScan dfn P tp N (m + 1 + 1) k cm r = r := by rw [aScan, if_pos (Or.inr c0)]
      have h100 := hS.2.2
      rw [eS, (hS.2.1 c0).1, ieq_n ⟨c0, by omega, by omega⟩]
      exact key
    obtain ⟨hR, ht⟩ := hS.1 c0
    have h26 := hR.2.1.1
    have hb := hp.2.2.2 k
    have eS : aScan dfn P tp N (m + 1 + 1) k cm r = if tp k ≠ 10 ∧ (tp k < 32 ∨ 126 < tp k) then rdBad 1 k r
      else if cm = true ∨ tp k = 59 then aScan dfn P tp N (m + 1) (k + 1) (tp k != 10) r
      else if tp k = 10 ∨ tp k = 32 then aScan dfn P tp N (m + 1) (k + 1) false r
      else aScan dfn P tp N (m + 1) (aTE tp N k) false (aTok dfn P k (aTxt tp k (aTE tp N k)) r) := by
      rw [aScan]
      exact if_neg (show ¬ (N ≤ k ∨ rdF r ≠ 0) from fun hh => hh.elim (fun q => by omega) (fun q => q c0))
    rw [eS]
    clear eS
    rw [h26, ieq_p rfl, ck_n (by omega), ob1_s, ob1_s, cl_n (by omega), hp.2.2.1 k c1, nI_add]
    -- on to the next byte, the reader as it is
    have onw : ∀ (cm2 : Bool), ∃ i' a' g' kk, m_Reader_read_b148 n (m_Reader_read_b21 n f) i a g (nI Ts) (b1 cm2) (nI q) (nI (k + 1)) = some (i', a', g', kk, if rdF (aRdEnd dfn N (aScan dfn P tp N (m + 1) (k + 1) cm2 r)) = 0 then nI 1 else nI 0) ∧ FIN g i a Ts dfn B N (aRdEnd dfn N (aScan dfn P tp N (m + 1) (k + 1) cm2 r)) g' i' a' kk := by
      intro cm2
      unfold m_Reader_read_b148
      rw [ob1_s, show (1 : Int32) = nI 1 from rfl, nI_add]
      exact ih g i a T (k + 1) (q + 1) f cm2 r (by omega) (by omega) (by omega) (by omega) ⟨fun _ => ⟨RB_on hR (by omega), ht⟩, fun hh => absurd c0 hh, by omega⟩ hp hT
    rcases Classical.em (tp k ≠ 10 ∧ (tp k < 32 ∨ 126 < tp k)) with c2 | c2
    · rw [if_pos c2, ieq_n ⟨c2.1, by omega, by omega⟩]
      have key2 : ∃ i' a' g' kk, m_Reader_read_b81 n (m_Reader_read_b21 n f) i a g (nI Ts) (b1 cm) (nI k) (nI q) (nI (k + 1)) = some (i', a', g', kk, if rdF (aRdEnd dfn N (rdBad 1 k r)) = 0 then nI 1 else nI 0) ∧ FIN g i a Ts dfn B N (aRdEnd dfn N (rdBad 1 k r)) g' i' a' kk := by
        unfold m_Reader_read_b81 m_Reader_read_b148
        rw [show (1 : Int32) = nI 1 from rfl, h_blame h26, ob_s, ob1_s, nI_add]
        have hF := FL_i (i' := upd (upd i 26 (nI 1)) 25 (nI k)) (RB_FL hR (by omega) (by have := hR.2.2.2.2.2.1; omega) (by omega)) (fun q hq => by rw [upd_ne (by omega), upd_ne (by omega)])
        obtain ⟨i', a', g', kk, w1, w2⟩ := ih g (upd (upd i 26 (nI 1)) 25 (nI k)) a T (k + 1) (q + 1) f cm (rdBad 1 k r) (by omega) (by omega) (by omega) (by omega) ⟨fun hh => absurd hh (by show ¬ 1 = 0; decide), fun _ => ⟨rfl, rfl, hF⟩, (by decide : 1 < 100)⟩ hp hT
        have eS : aScan dfn P tp N (m + 1) (k + 1) cm (rdBad 1 k r) = rdBad 1 k r := by rw [aScan, if_pos (Or.inr (by show ¬ 1 = 0; decide))]
        rw [eS] at w1 w2
        refine ⟨i', a', g', (0 + kk.1, 0 + kk.2), by rw [w1, Nat.zero_add, Nat.zero_add], FIN_up (k := (0, 0)) (hGrow_refl hR.1.2.2.2.2.1) hT ⟨fun q h1 h2 => by rw [upd_ne (by omega), upd_ne (by omega)], fun _ _ _ => rfl, fun _ _ => rfl⟩ w2⟩
      rcases c2.2 with c3 | c3
      · rw [ilt_p (by omega)]; exact key2
      · rw [ilt_n (by omega), ile_n (by omega)]; exact key2
    rw [if_neg c2]
    have to91 : (if nI (tp k) = nI 10 then m_Reader_read_b91 n (m_Reader_read_b21 n f) i a g (nI Ts) (b1 cm) (nI k) (nI q) (nI (tp k)) (nI (k + 1)) else if nI (tp k) < nI 32 then m_Reader_read_b81 n (m_Reader_read_b21 n f) i a g (nI Ts) (b1 cm) (nI k) (nI q) (nI (k + 1)) else if nI (tp k) ≤ nI 126 then m_Reader_read_b91 n (m_Reader_read_b21 n f) i a g (nI Ts) (b1 cm) (nI k) (nI q) (nI (tp k)) (nI (k + 1)) else m_Reader_read_b81 n (m_Reader_read_b21 n f) i a g (nI Ts) (b1 cm) (nI k) (nI q) (nI (k + 1))) = m_Reader_read_b91 n (m_Reader_read_b21 n f) i a g (nI Ts) (b1 cm) (nI k) (nI q) (nI (tp k)) (nI (k + 1)) := by
      rcases Classical.em (tp k = 10) with e | e
      · rw [ieq_p e]
      · rw [ieq_n ⟨e, by omega, by omega⟩, ilt_n (by omega), ile_p (by omega)]
    rw [to91]
    unfold m_Reader_read_b91
    simp only [i32_lit]
    rw [b1_z]
    have to102 : m_Reader_read_b102 n (m_Reader_read_b21 n f) i a g (nI Ts) (nI q) (nI (tp k)) (nI (k + 1)) = m_Reader_read_b148 n (m_Reader_read_b21 n f) i a g (nI Ts) (b1 (tp k != 10)) (nI q) (nI (k + 1)) := by
      unfold m_Reader_read_b102 m_Reader_read_b114
      simp only [i32_lit]
      rcases Classical.em (tp k = 10) with e | e
      · rw [ieq_p e, e]; rfl
      · rw [ieq_n ⟨e, by omega, by omega⟩, show (tp k != 10) = true from bne_iff_ne.mpr e]; rfl
    cases cm with
    | true =>
      rw [if_pos rfl, if_pos (Or.inl rfl), to102]
      exact onw _
    | false =>
      rw [if_neg (show ¬ (false = true) from by decide)]
      rcases Classical.em (tp k = 59) with c4 | c4
      · rw [if_pos (Or.inr c4), ieq_p c4, to102]
        exact onw _
      rw [if_neg (show ¬ (false = true ∨ tp k = 59) from fun hh => hh.elim (fun q => by cases q) c4), ieq_n ⟨c4, by omega, by omega⟩]
      rcases Classical.em (tp k = 10 ∨ tp k = 32) with c5 | c5
      · rw [if_pos c5]
        rcases Classical.em (tp k = 10) with e | e
        · rw [ieq_p e]; exact onw false
        · rw [ieq_n ⟨e, by omega, by omega⟩, ieq_p (by omega)]; exact onw false
      rw [if_neg c5, ieq_n ⟨fun e => c5 (Or.inl e), by omega, by omega⟩, ieq_n ⟨fun e => c5 (Or.inr e), by omega, by omega⟩, h_tokenEnd (by omega) hp c1, ob0_s]
      have hte := aTE_le (tp := tp) c1
      obtain ⟨i2, a2, g2, k2, T2, z1, z2, z3, z4, z5, z6⟩ := h_token hn hR ht c0 hp c1 (by omega) (by omega) hB
      have hp2 : tpR i2 a2 tp N := ⟨(z4.1 24 (by decide) (by omega)).trans hp.1, hp.2.1, fun x hx => by rw [z4.2.1 31 (by decide) (by omega)]; exact hp.2.2.1 x hx, hp.2.2.2⟩
      have h100 := rdF_tok dfn P k (aTxt tp k (aTE tp N k)) r c0
      rw [z1]
      obtain ⟨i', a', g', kk, w1, w2⟩ := ih g2 i2 a2 T2 (aTE tp N k) (q + 1) f false (aTok dfn P k (aTxt tp k (aTE tp N k)) r) (by omega) (by omega) (by omega) (by omega) ⟨z5, z6, h100⟩ hp2 (by omega)
      refine ⟨i', a', g', (k2.1 + kk.1, k2.2 + kk.2), obG_s ?_, FIN_up z2 (by omega) z4 w2⟩
      unfold m_Reader_read_b148
      rw [ob1_s, show (1 : Int32) = nI 1 from rfl, nI_add]
      exact w1
def rI0 (i : Nat → Int32) (dfn : Bool) (s : Int32) : Nat → Int32 := upd (upd (upd (upd (upd (upd (upd (upd i 31 (b1 dfn)) 32 s) 26 (nI 0)) 28 (nI 0)) 29 (nI 0)) 30 (nI 0)) 33 (nI 0)) 34 (nI 0)
theorem rI0_frm {i : Nat → Int32} {a : Nat → Nat → Int32} {T : Nat} {dfn : Bool} {s : Int32} : rFrm i a T (rI0 i dfn s) a := ⟨fun q h1 h2 => by
    unfold rI0
    rw [upd_ne (by omega), upd_ne (by omega), upd_ne (by omega), upd_ne (by omega), upd_ne (by omega), upd_ne (by omega), upd_ne (by omega), upd_ne (by omega)], fun _ _ _ => rfl, fun _ _ => rfl⟩
theorem rI0_int (i : Nat → Int32) (dfn : Bool) : rdInt (rI0 i dfn (nI (rd0 dfn).1)) dfn (rd0 dfn) := by
  unfold rdInt rI0
  refine ⟨?_, ?_, ?_, ?_, ?_, ?_, ?_, ?_⟩
  · repeat rw [upd_ne (by decide)]
    rw [upd_at]
  · repeat rw [upd_ne (by decide)]
    rw [upd_at]; rfl
  · repeat rw [upd_ne (by decide)]
    rw [upd_at]; rfl
  · repeat rw [upd_ne (by decide)]
    rw [upd_at]; rfl
  · repeat rw [upd_ne (by decide)]
    rw [upd_at]
  · repeat rw [upd_ne (by decide)]
    rw [upd_at]
  · repeat rw [upd_ne (by decide)]
    rw [upd_at]; rfl
  · rw [upd_at]; rfl
theorem rSt_0 {g : Nat → Nat} {i : Nat → Int32} {a : Nat → Nat → Int32} {T : Nat} {dfn : Bool} {P : List Proc} (h : rdGen g i a T P) : rSt g (rI0 i dfn (nI (rd0 dfn).1)) a T dfn P (T + 1) 0 (rd0 dfn) := by
  refine ⟨fun _ => ⟨⟨rdGen_up h (Nat.le_refl _) h.1 ⟨h.2.2.1, h.2.1.2⟩ (Nat.le_refl _) h.2.2.2.2.1 rI0_frm, rI0_int i dfn, ⟨⟨fun j hj => absurd hj (Nat.not_lt_zero j), fun hh => absurd rfl hh, trivial⟩, fun k hk => absurd hk (Nat.not_lt_zero k), fun h2 hd => ?_, fun h2 hd => ?_⟩, ?_⟩, Nat.zero_le _⟩, fun hh => absurd rfl hh, (by decide : 0 < 100)⟩
  · subst hd; exact absurd (show (2 : Nat) ≤ 0 from h2) (by decide)
  · subst hd; exact absurd (show (0 : Nat) = 3 from h2) (by decide)
  · cases dfn with
    | true => exact ⟨List.cons_ne_nil _ _, by show 1 ≤ 21; decide, Nat.le_refl _, Nat.le_refl _, Nat.le_refl _, Nat.le_refl _, Nat.le_refl _, by show T + 0 + 0 + 0 ≤ T + 1 + 4 * 0; omega, Nat.zero_le _, fun _ => rfl, fun _ => rfl, fun hh => absurd (show (0 : Nat) = 2 from hh) (by decide), (fun hh => by cases hh), by show 0 ≤ 601; decide⟩
    | false => exact ⟨List.cons_ne_nil _ _, by show 1 ≤ 21; decide, Nat.le_refl _, Nat.le_refl _, Nat.le_refl _, Nat.le_refl _, Nat.le_refl _, by show T + 0 + 1 + 0 ≤ T + 1 + 4 * 0; omega, Nat.le_refl _, fun hh => absurd (show (3 : Nat) < 3 from hh) (by decide), fun hh => absurd (show (3 : Nat) < 2 from hh) (by decide), fun hh => absurd (show (3 : Nat) = 2 from hh) (by decide), fun _ => rfl, by show 0 ≤ 601; decide⟩
theorem h_rbegin {n : Nat} {g : Nat → Nat} {i : Nat → Int32} {a : Nat → Nat → Int32} {dfn : Bool} : m_Reader_begin n g i a (b1 dfn) = some (rI0 i dfn (nI (rd0 dfn).1), a, nI 0) := by
  unfold m_Reader_begin m_Reader_begin_b18 rI0
  have ec : ∀ {δ : Type} (k : Option δ), cb (b1 dfn) k = k := fun k => by cases dfn; exact cb_n0; exact cb_n1
  simp only [i32_lit]
  rw [ec, ob1_s, upd_at]
  cases dfn with
  | true =>
    rw [if_neg (show ¬ b1 true = nI 0 from fun e => absurd ((nI_eq (a := 1) (b := 0) (by omega) (by omega)).mp e) (by decide))]
    simp only [ob1_s]
    rfl
  | false =>
    rw [if_pos (show b1 false = nI 0 from rfl)]
    simp only [ob1_s]
    rfl
/-- the tape is read -/
theorem h_read {n : Nat} {g : Nat → Nat} {i : Nat → Int32} {a : Nat → Nat → Int32} {T N : Nat} {dfn : Bool} {P : List Proc} {tp : Nat → Nat} (hn : 10000 ≤ n) (h : rdGen g i a T P) (hp : tpR i a tp N) (hT : T + 1 + 16001 ≤ 340000) : ∃ i' a' g' kk, m_Reader_read n g i a (b1 dfn) = some (i', a', g', kk, if rdF (aRead dfn P tp N) = 0 then nI 1 else nI 0) ∧ FIN g i a T dfn (T + 1) N (aRead dfn P tp N) g' i' a' kk := by
  have hN := hp.2.1
  have hp0 : tpR (rI0 i dfn (nI (rd0 dfn).1)) a tp N := ⟨((rI0_frm (a := a) (T := T)).1 24 (by decide) (by omega)).trans hp.1, hp.2⟩
  obtain ⟨i', a', g', kk, w1, w2⟩ := h_read_b (n := n) (Ts := T) (B := T + 1) (dfn := dfn) (P := P) (tp := tp) hn hN hT N g (rI0 i dfn (nI (rd0 dfn).1)) a T 0 0 n false (rd0 dfn) (by omega) (by omega) (by omega) (by omega) (rSt_0 h) hp0 (Nat.le_refl T)
  have eR : aRead dfn P tp N = aRdEnd dfn N (aScan dfn P tp N (N + 1) 0 false (rd0 dfn)) := rfl
  rw [← eR] at w1 w2
  refine ⟨i', a', g', kk, ?_, ?_⟩
  · unfold m_Reader_read
    rw [ob1_s, h.1, h_rbegin, ob_s]
    simp only [i32_lit]
    rw [b1_f] at w1
    exact w1
  · have := FIN_up (k := (0, 0)) (hGrow_refl h.2.2.2.2.1) (Nat.le_refl T) (rI0_frm (s := nI (rd0 dfn).1)) w2
    rw [Nat.zero_add, Nat.zero_add] at this
    exact this

