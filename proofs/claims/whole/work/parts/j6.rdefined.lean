/-! define, the whole of it -/
theorem r_defined {n : Nat} {i : Nat → Int32} {j : Nat → Int64} {a : Nat → Nat → Int32} {b : Nat → Nat → Int64} {B : RB4} {ps : List Proc} {w : Nm} {x : Nat} {t : Tr} {v : Int64} (hn : 1000 ≤ n) (hB : B.1 ≤ 120000 ∧ B.2.1 ≤ 300000 ∧ B.2.2.1 ≤ 90000 ∧ B.2.2.2 ≤ 90000) (hC : rC a b B) (hw : rW a B x w) (hv : rV a b B t none v) (hl : isL t = true) (hP : rPr i a b B ps) :
    (∃ e a', aDefine w t ps = .error e ∧ m_Model_defined n i j a b (nI x) v = some (rFail i e, j, a', b, 3) ∧ rUp a b B a' b B ∧ rC a' b B ∧ (∀ q, q ≠ 7 → a' q = a q)) ∨
    (∃ ps' i' a' b', aDefine w t ps = .ok ps' ∧ m_Model_defined n i j a b (nI x) v = some (i', j, a', b', 3) ∧ rPr i' a' b' B ps' ∧ rUp a b B a' b' B ∧ rC a' b' B ∧ (∀ q, q ≠ 33 → i' q = i q) ∧ (∀ q, q ≠ 7 → q ≠ 29 → q ≠ 30 → q ≠ 31 → a' q = a q) ∧ (∀ q, q ≠ 32 → b' q = b q)) := by
  have hK := rC_at hC hw
  obtain ⟨a1, m1, m2, m3, m4⟩ := r_isName (n := n) (i := i) (j := j) (b := b) hn hw hK.2.1
  obtain ⟨hu1, hC1⟩ := rC_7 hB hC m2 m3 hw m4
  have hw1 := rW_up hu1 hw
  have t1 := r_isL_eq hv hl
  have hv1 : rV a1 b B (tL (tMem t)) none v := by rw [← t1]; exact (rV_up hu1 _).1 _ hv
  have hl5 := r_len5 hv1
  have hP1 : rPr i a1 b B ps := rPr_up hu1 rfl (fun m _ => ⟨by rw [m2 29 (by decide)], by rw [m2 30 (by decide)], rfl⟩) (fun m _ => by rw [m2 31 (by decide)]) hP
  have bad : (∀ d0 d1, tMem t = [d0, d1] → ¬ dOk w d0 d1) → (∃ e a', aDefine w t ps = .error e ∧ m_Model_defined_b75 n i j a1 b (nI x) v = some (rFail i e, j, a', b, 3) ∧ rUp a b B a' b B ∧ rC a' b B ∧ (∀ q, q ≠ 7 → a' q = a q)) ∨ (∃ ps' i' a' b', aDefine w t ps = .ok ps' ∧ m_Model_defined_b75 n i j a1 b (nI x) v = some (i', j, a', b', 3) ∧ rPr i' a' b' B ps' ∧ rUp a b B a' b' B ∧ rC a' b' B ∧ (∀ q, q ≠ 33 → i' q = i q) ∧ (∀ q, q ≠ 7 → q ≠ 29 → q ≠ 30 → q ≠ 31 → a' q = a q) ∧ (∀ q, q ≠ 32 → b' q = b q)) := fun h =>
    Or.inl ⟨3, a1, aDef_no2 h, r_def75 (by omega), hu1, hC1, m2⟩
  unfold m_Model_defined
  rw [m1, om_s]
  rcases (Classical.em (aLex w = 0)).symm with c | c
  · rw [decide_eq_false c, b1_f, if_pos (show nI 0 = (0 : Int32) from rfl)]
    exact bad (fun d0 d1 _ h => c h.1)
  rw [decide_eq_true c, b1_t, if_neg (show ¬ nI 1 = (0 : Int32) by decide), r_size hv1, ob0_s, show (2 : Int32) = nI 2 from rfl]
  rcases (Classical.em ((tMem t).length = 2)).symm with c2 | c2
  · rw [ieq_n ⟨c2, by omega, by omega⟩]
    exact bad (fun d0 d1 e _ => c2 (by rw [e]; rfl))
  obtain ⟨d0, d1, ed⟩ : ∃ d0 d1, tMem t = [d0, d1] := by
    match h : tMem t, c2 with
    | [d0, d1], _ => exact ⟨d0, d1, rfl⟩
  rw [ed] at hv1
  obtain ⟨x0, p1, p2⟩ := r_member (n := n) (i := i) (j := j) hv1 (show 0 < [d0, d1].length from Nat.zero_lt_succ 1)
  obtain ⟨x1, p3, p4⟩ := r_member (n := n) (i := i) (j := j) hv1 (show 1 < [d0, d1].length from Nat.lt_succ_self 1)
  have p2 : rV a1 b B d0 none x0 := p2
  have p4 : rV a1 b B d1 none x1 := p4
  obtain ⟨_, _, kl0⟩ := r_kinds n p2
  obtain ⟨_, _, kl1⟩ := r_kinds n p4
  have only : ∀ e0 e1, tMem t = [e0, e1] → e0 = d0 ∧ e1 = d1 := fun e0 e1 e => by
    rw [ed] at e
    injection e with h1 h2
    injection h2 with h2 h3
    exact ⟨h1.symm, h2.symm⟩
  rw [ieq_p c2, show (0 : Int32) = nI 0 from rfl, p1, ob0_s, kl0, ob0_s]
  cases hl0 : isL d0 with
  | false =>
    rw [b1_f, if_pos rfl]
    exact bad (fun e0 e1 e h => by obtain ⟨rfl, rfl⟩ := only e0 e1 e; rw [h.2.1] at hl0; cases hl0)
  | true =>
  have s0 := r_isL_eq p2 hl0
  have p2' := p2
  rw [s0] at p2'
  have hlen0 := r_len5 p2'
  rw [b1_t, if_neg (show ¬ nI 1 = nI 0 by decide), show (1 : Int32) = nI 1 from rfl, p3, ob0_s, kl1, ob0_s]
  cases hl1 : isL d1 with
  | false =>
    rw [b1_f, if_pos rfl]
    exact bad (fun e0 e1 e h => by obtain ⟨rfl, rfl⟩ := only e0 e1 e; rw [h.2.2.1] at hl1; cases hl1)
  | true =>
  have h51 := r_sz5 p4
  rw [b1_t, if_neg (show ¬ nI 1 = nI 0 by decide), ob0_s, r_size p2', ob0_s, show (5 : Int32) = nI 5 from rfl]
  rcases Nat.lt_or_ge 5 (tMem d0).length with c5 | c5
  · rw [ilt_p (by omega)]
    exact bad (fun e0 e1 e h => by obtain ⟨rfl, rfl⟩ := only e0 e1 e; have := h.2.2.2.1; omega)
  rw [ilt_n (by omega), ob0_s, r_sizeOf p4, ob0_s, show (600 : Int32) = nI 600 from rfl]
  rcases Nat.lt_or_ge 600 (tSz d1) with c6 | c6
  · rw [ilt_p (by omega)]
    exact bad (fun e0 e1 e h => by obtain ⟨rfl, rfl⟩ := only e0 e1 e; have := h.2.2.2.2; omega)
  rw [ilt_n (by omega)]
  have ea := aDef_2 (ps := ps) ed ⟨c, hl0, hl1, c5, c6⟩
  unfold m_Model_defined_b76
  rw [if_neg (show ¬ nI 1 = (0 : Int32) by decide), show (0 : Int32) = nI 0 from rfl, p1, ob0_s]
  unfold m_Model_defined_b93
  rw [show (0 : Int32) = nI 0 from rfl, r_def98 (by omega) p2' c5 (tMem d0).length 0 n (by omega) (by omega) (fun z _ hz => absurd hz (Nat.not_lt_zero z)) (by simp), ea]
  rcases (Classical.em ((∀ v ∈ tMem d0, isW v = true) ∧ ((tMem d0).map tLet).Nodup)).symm with c7 | c7
  · rw [dec_f c7, if_neg Bool.false_ne_true, if_neg Bool.false_ne_true]
    exact Or.inl ⟨3, a1, rfl, rfl, hu1, hC1, m2⟩
  rw [dec_t c7, if_pos rfl, if_pos rfl]
  have hv2 : rV a1 b B (tL [tL (tMem d0), d1]) none v := by rw [← s0]; exact hv1
  have fin : (pFind ps w = none → ps.length < 40) → (∃ e a', (Except.ok (pTell ps w ((tMem d0).map tLet) d1) : Except Nat (List Proc)) = .error e ∧ m_Model_defined_b226 n i j a1 b (nI x) v x0 = some (rFail i e, j, a', b, 3) ∧ rUp a b B a' b B ∧ rC a' b B ∧ (∀ q, q ≠ 7 → a' q = a q)) ∨ (∃ ps' i' a' b', (Except.ok (pTell ps w ((tMem d0).map tLet) d1) : Except Nat (List Proc)) = .ok ps' ∧ m_Model_defined_b226 n i j a1 b (nI x) v x0 = some (i', j, a', b', 3) ∧ rPr i' a' b' B ps' ∧ rUp a b B a' b' B ∧ rC a' b' B ∧ (∀ q, q ≠ 33 → i' q = i q) ∧ (∀ q, q ≠ 7 → q ≠ 29 → q ≠ 30 → q ≠ 31 → a' q = a q) ∧ (∀ q, q ≠ 32 → b' q = b q)) := fun hr => by
    obtain ⟨i', a', b', e1, e2, e3, e4, e5, e6⟩ := r_def226 (n := n) (j := j) hn hB hw1 hP1 hr c5 c7.1 p2' hv2
    have hC2 : rC a' b' B := rC_same ⟨e5 1 (by decide) (by decide) (by decide), e5 3 (by decide) (by decide) (by decide), e5 4 (by decide) (by decide) (by decide), e5 12 (by decide) (by decide) (by decide), e5 13 (by decide) (by decide) (by decide), e5 14 (by decide) (by decide) (by decide), e6 10 (by decide)⟩ (e5 7 (by decide) (by decide) (by decide)) (e6 9 (by decide)) hB hC1
    exact Or.inr ⟨_, i', a', b', rfl, e1, e2, rUp_trans hu1 e3, hC2, e4, fun q r0 r1 r2 r3 => (e5 q r1 r2 r3).trans (m2 q r0), e6⟩
  unfold m_Model_defined_b190
  rw [if_neg (show ¬ nI 1 = (0 : Int32) by decide)]
  have hpo := r_procedureOf (n := n) (i := i) (j := j) (by omega) hw1 hP1
  cases hf : pFind ps w with
  | some k =>
    obtain ⟨hk, _⟩ := pFind_at ps w k hf
    have h40 := hP.2.1
    have hp2 : m_Model_procedureOf n i j a1 b (nI x) = some (nI k) := by rw [hpo, hf]
    rw [hp2, ob0_s, if_neg (show ¬ nI k = (-1 : Int32) from m1_ne (by omega)), if_neg (show ¬ ((some k : Option Nat) = none ∧ 40 ≤ ps.length) from fun e => by cases e.1)]
    exact fin (fun e => by rw [hf] at e; cases e)
  | none =>
    have h40 := hP.2.1
    have hp2 : m_Model_procedureOf n i j a1 b (nI x) = some (-1) := by rw [hpo, hf]
    rw [hp2, ob0_s, if_pos (show (-1 : Int32) = -1 from rfl), hP1.1, show (40 : Int32) = nI 40 from rfl]
    rcases Nat.lt_or_ge ps.length 40 with d | d
    · rw [ieq_n ⟨by omega, by omega, by omega⟩, if_neg (show ¬ ((none : Option Nat) = none ∧ 40 ≤ ps.length) from fun e => by omega)]
      exact fin (fun _ => d)
    · rw [ieq_p (by omega), if_pos ⟨rfl, d⟩, show (8 : Int32) = nI 8 from rfl, r_fails, om_s]
      exact Or.inl ⟨8, a1, rfl, rfl, hu1, hC1, m2⟩

