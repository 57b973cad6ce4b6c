/-! the class's words are loaded: the six texts -/
def lxB (s : LX) : LX := (0, s.2.1, s.2.2.1 ++ [s.2.1.length], s.2.2.2.1, s.2.2.2.2.1, s.2.2.2.2.2)
def lxF (s : LX) : LX := (0, s.2.1 ++ [0], s.2.2.1, s.2.2.2.1, s.2.2.2.2.1, lxW s)
def lxLoad (t : List Nat) (s : LX) : Option LX := if s.2.2.1.length < 86 then (match lxRun t (lxB s) with
  | none => none
  | some s' => some (lxF s')) else none
def lxT (k : Nat) : List Nat := (tw_byt.getD k []).map (fun x => x.toNatClampNeg)
def lxS0 : LX := (0, [], [0], List.replicate 86 0, List.replicate 258 0, List.replicate 256 0)
/-- between two texts -/
def LB (s : LX) : Prop := (1 ≤ s.2.2.1.length ∧ s.2.2.1.length ≤ 86) ∧ s.2.2.2.1.length = 86 ∧ s.2.2.2.2.1.length = 258 ∧ s.2.2.2.2.2.length = 256 ∧ (∀ x, s.2.2.2.2.2.getD x 0 < 86)
theorem lx_load {N : Nat} {f : Nat → Int32} {t : List Nat} {s s' : LX} (hN : N ≤ 1000) (ht : t.length = N) (hf : ∀ k (h : k < t.length), f k &&& 255 = nI (t[k]'h)) (hc : ∀ c ∈ t, c ≤ 126) (h : LB s) (e : lxLoad t s = some s') : LB s' ∧ m_Lexicon_load_w0_5 (nI (s.2.2.1.length - 1)) (nI s.2.1.length) (lf s.2.1) (lf s.2.2.1) (lf s.2.2.2.1) (lf s.2.2.2.2.1) (lf s.2.2.2.2.2) N f = nI (s'.2.2.1.length - 1) ∧ m_Lexicon_load_w0_6 (nI (s.2.2.1.length - 1)) (nI s.2.1.length) (lf s.2.1) (lf s.2.2.1) (lf s.2.2.2.1) (lf s.2.2.2.2.1) (lf s.2.2.2.2.2) N f = nI s'.2.1.length ∧ m_Lexicon_load_w1 (nI (s.2.2.1.length - 1)) (nI s.2.1.length) (lf s.2.1) (lf s.2.2.1) (lf s.2.2.2.1) (lf s.2.2.2.2.1) (lf s.2.2.2.2.2) N f = lf s'.2.1 ∧ m_Lexicon_load_w2 (nI (s.2.2.1.length - 1)) (nI s.2.1.length) (lf s.2.1) (lf s.2.2.1) (lf s.2.2.2.1) (lf s.2.2.2.2.1) (lf s.2.2.2.2.2) N f = lf s'.2.2.1 ∧ m_Lexicon_load_w3 (nI (s.2.2.1.length - 1)) (nI s.2.1.length) (lf s.2.1) (lf s.2.2.1) (lf s.2.2.2.1) (lf s.2.2.2.2.1) (lf s.2.2.2.2.2) N f = lf s'.2.2.2.1 ∧ m_Lexicon_load_w4 (nI (s.2.2.1.length - 1)) (nI s.2.1.length) (lf s.2.1) (lf s.2.2.1) (lf s.2.2.2.1) (lf s.2.2.2.2.1) (lf s.2.2.2.2.2) N f = lf s'.2.2.2.2.1 ∧ m_Lexicon_load_w5 (nI (s.2.2.1.length - 1)) (nI s.2.1.length) (lf s.2.1) (lf s.2.2.1) (lf s.2.2.2.1) (lf s.2.2.2.2.1) (lf s.2.2.2.2.2) N f = lf s'.2.2.2.2.2 := by
  obtain ⟨⟨h1, h2⟩, h5, h6, h7, h8⟩ := h
  unfold lxLoad at e
  rcases Classical.em (s.2.2.1.length < 86) with c0 | c0
  rotate_left
  · rw [if_neg c0] at e; cases e
  rw [if_pos c0] at e
  have hB : LI (lxB s) := by
    refine ⟨⟨?_, ?_, ?_, ?_⟩, h5, h6, h7, h8⟩
    · show 1 ≤ (s.2.2.1 ++ [s.2.1.length]).length
      rw [List.length_append, List.length_singleton]; omega
    · show (s.2.2.1 ++ [s.2.1.length]).length ≤ 86
      rw [List.length_append, List.length_singleton]; omega
    · show (s.2.2.1 ++ [s.2.1.length]).getD ((s.2.2.1 ++ [s.2.1.length]).length - 1) 0 ≤ s.2.1.length
      rw [List.length_append, List.length_singleton, getD_app, if_pos (by omega)]
      exact Nat.le_refl _
    · show okLs (s.2.1.drop ((s.2.2.1 ++ [s.2.1.length]).getD ((s.2.2.1 ++ [s.2.1.length]).length - 1) 0))
      rw [List.length_append, List.length_singleton, getD_app, if_pos (by omega), List.drop_length]
      intro x hx
      cases hx
  cases hr : lxRun t (lxB s) with
  | none => rw [hr] at e; cases e
  | some s1 =>
    rw [hr] at e
    have e : lxF s1 = s' := Option.some.inj e
    subst e
    have b1 : m_Lexicon_beginWord_w0_5 (nI (s.2.2.1.length - 1)) = nI ((lxB s).2.2.1.length - 1) := by
      unfold m_Lexicon_beginWord_w0_5
      rw [show nI (s.2.2.1.length - 1) + (1 : Int32) = nI (s.2.2.1.length - 1 + 1) from nI_add _ 1, show (86 : Int32) = nI 86 from rfl, ile_n (by omega)]
      show _ = nI ((s.2.2.1 ++ [s.2.1.length]).length - 1)
      rw [List.length_append, List.length_singleton]
      congr 1
      omega
    have b2 : m_Lexicon_beginWord_w2 (nI (s.2.2.1.length - 1)) (nI s.2.1.length) (lf s.2.2.1) = lf (lxB s).2.2.1 := by
      unfold m_Lexicon_beginWord_w2
      rw [show nI (s.2.2.1.length - 1) + (1 : Int32) = nI (s.2.2.1.length - 1 + 1) from nI_add _ 1, show (86 : Int32) = nI 86 from rfl, ile_n (by omega), cl_n (by omega), show s.2.2.1.length - 1 + 1 = s.2.2.1.length by omega, lf_app]
      rfl
    obtain ⟨⟨q1, q2⟩, q3, q4, q5, q6, q7, q8, q9⟩ := lx_run (k1 := nI (s.2.2.1.length - 1)) (k2 := nI s.2.1.length) (p1 := lf s.2.1) (p2 := lf s.2.2.1) (p3 := lf s.2.2.2.1) (p4 := lf s.2.2.2.2.1) (p5 := lf s.2.2.2.2.2) (N := N) (f := f) hN t 0 (N - 0 + 1) (lxB s) s1 (by omega) (by omega) (fun k hk => by rw [Nat.zero_add]; exact hf k hk) hc hB hr
    unfold m_Lexicon_load_w0_5 m_Lexicon_load_w0_6 m_Lexicon_load_w1 m_Lexicon_load_w2 m_Lexicon_load_w3 m_Lexicon_load_w4 m_Lexicon_load_w5
    rw [b1, b2]
    have hi := lxIns_ok (h := hashN (s1.2.1.drop (s1.2.2.1.getD (s1.2.2.1.length - 1) 0)) 0) (w := s1.2.2.1.length - 1) q1.2.2.2.1 q1.2.2.2.2 (by have := q1.1.2.1; have := q1.1.1; omega) 256 0
    refine ⟨⟨⟨q1.1.1, q1.1.2.1⟩, q1.2.1, q1.2.2.1, hi.1, hi.2⟩, q3, ?_, q5, q6, q7, q8, q9⟩
    show _ = nI (s1.2.1 ++ [0]).length
    rw [List.length_append, List.length_singleton]
    exact q4
def lxBind (o : Option LX) (f : LX → Option LX) : Option LX := match o with
  | none => none
  | some s => f s
theorem lxBind_s {o : Option LX} {f : LX → Option LX} {r : LX} (h : lxBind o f = some r) : ∃ s, o = some s ∧ f s = some r := by
  cases o with
  | none => cases h
  | some s => exact ⟨s, rfl, h⟩
def lxAll : Option LX := lxBind (lxBind (lxBind (lxBind (lxBind (lxLoad (lxT 3) lxS0) (lxLoad (lxT 4))) (lxLoad (lxT 5))) (lxLoad (lxT 6))) (lxLoad (lxT 7))) (lxLoad (lxT 8))
def lxSame (o : Option LX) : Bool := match o with
  | none => false
  | some s => decide (s.1 = 0) && decide (s.2.1 = lexL) && decide (s.2.2.1 = lexS) && decide (s.2.2.2.1 = lexA) && decide (s.2.2.2.2.1 = lexK) && decide (s.2.2.2.2.2 = lexH)
set_option maxRecDepth 200000 in
theorem lxAll_b : lxSame lxAll = true := by decide +kernel
theorem lxAll_is : lxAll = some (0, lexL, lexS, lexA, lexK, lexH) := by
  have h := lxAll_b
  unfold lxSame at h
  cases e : lxAll with
  | none => rw [e] at h; cases h
  | some s =>
    rw [e] at h
    dsimp only at h
    simp only [Bool.and_eq_true, decide_eq_true_eq] at h
    obtain ⟨⟨⟨⟨⟨h1, h2⟩, h3⟩, h4⟩, h5⟩, h6⟩ := h
    obtain ⟨ik, L, S, A, K, H⟩ := s
    dsimp only at *
    subst h1 h2 h3 h4 h5 h6
    rfl
theorem lxT_ok : ∀ i, 3 ≤ i → i ≤ 8 → (lxT i).length = tw_len.getD i 0 ∧ tw_len.getD i 0 ≤ 1000 ∧ (∀ k, k < (lxT i).length → tw_bt i k &&& 255 = nI ((lxT i).getD k 0)) ∧ ∀ c ∈ lxT i, c ≤ 126 := by
  have h : ∀ i, i < 9 → 3 ≤ i → ((lxT i).length = tw_len.getD i 0 ∧ tw_len.getD i 0 ≤ 1000 ∧ (∀ k, k < (lxT i).length → tw_bt i k &&& 255 = nI ((lxT i).getD k 0)) ∧ ∀ c ∈ lxT i, c ≤ 126) := by decide +kernel
  intro i h1 h2
  exact h i (by omega) h1
theorem lx_ld_p {i N : Nat} {s s' : LX} (hi : 3 ≤ i ∧ i ≤ 8) (hN : tw_len.getD i 0 = N) (h : LB s) (e : lxLoad (lxT i) s = some s') : LB s' ∧ m_Lexicon_load_w0_5 (nI (s.2.2.1.length - 1)) (nI s.2.1.length) (lf s.2.1) (lf s.2.2.1) (lf s.2.2.2.1) (lf s.2.2.2.2.1) (lf s.2.2.2.2.2) N (tw_bt i) = nI (s'.2.2.1.length - 1) ∧ m_Lexicon_load_w0_6 (nI (s.2.2.1.length - 1)) (nI s.2.1.length) (lf s.2.1) (lf s.2.2.1) (lf s.2.2.2.1) (lf s.2.2.2.2.1) (lf s.2.2.2.2.2) N (tw_bt i) = nI s'.2.1.length ∧ m_Lexicon_load_w1 (nI (s.2.2.1.length - 1)) (nI s.2.1.length) (lf s.2.1) (lf s.2.2.1) (lf s.2.2.2.1) (lf s.2.2.2.2.1) (lf s.2.2.2.2.2) N (tw_bt i) = lf s'.2.1 ∧ m_Lexicon_load_w2 (nI (s.2.2.1.length - 1)) (nI s.2.1.length) (lf s.2.1) (lf s.2.2.1) (lf s.2.2.2.1) (lf s.2.2.2.2.1) (lf s.2.2.2.2.2) N (tw_bt i) = lf s'.2.2.1 ∧ m_Lexicon_load_w3 (nI (s.2.2.1.length - 1)) (nI s.2.1.length) (lf s.2.1) (lf s.2.2.1) (lf s.2.2.2.1) (lf s.2.2.2.2.1) (lf s.2.2.2.2.2) N (tw_bt i) = lf s'.2.2.2.1 ∧ m_Lexicon_load_w4 (nI (s.2.2.1.length - 1)) (nI s.2.1.length) (lf s.2.1) (lf s.2.2.1) (lf s.2.2.2.1) (lf s.2.2.2.2.1) (lf s.2.2.2.2.2) N (tw_bt i) = lf s'.2.2.2.2.1 ∧ m_Lexicon_load_w5 (nI (s.2.2.1.length - 1)) (nI s.2.1.length) (lf s.2.1) (lf s.2.2.1) (lf s.2.2.2.1) (lf s.2.2.2.2.1) (lf s.2.2.2.2.2) N (tw_bt i) = lf s'.2.2.2.2.2 := by
  obtain ⟨t1, t2, t3, t4⟩ := lxT_ok i hi.1 hi.2
  refine lx_load (by omega) (t1.trans hN) (fun k hk => ?_) t4 h e
  rw [t3 k hk, List.getD_eq_getElem?_getD, List.getElem?_eq_getElem hk]
  rfl

