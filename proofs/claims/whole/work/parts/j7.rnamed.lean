/-! words about names and procedures, in the reference -/
theorem r_namep {n : Nat} {i : Nat → Int32} {j : Nat → Int64} {a : Nat → Nat → Int32} {b : Nat → Nat → Int64} {B : RB4} {w : List Nat} {x : Nat} {v4 : Int64} {F : List Fr} {Gl : List (Nm × Tr)} (hn : 1000 ≤ n) (hB : B.1 ≤ 120000 ∧ B.2.1 ≤ 300000 ∧ B.2.2.1 ≤ 90000 ∧ B.2.2.2 ≤ 90000) (hT : rTr j a b B) (hw : rW a B x w) (h99 : i 99 = nI F.length) (hF : rFr a b B F) (hG : rGl i a b B Gl) (hl : F.length ≤ 150) : rAns i j a b B (.ok (aTruth (aFind F Gl w).isSome)) (m_Model_named n i j a b (nI 52) (vW x) v4) := by
  obtain ⟨h1, h2, h3, h4, h5, h6, h7, p, h8, h9, h10⟩ := id hw
  have hTx : rT a p w := ⟨by omega, by omega, h6, h10⟩
  unfold m_Model_named
  rw [r_whatW (by omega), ob0_s, if_neg (by decide), if_neg (by decide), if_neg (by decide), if_pos (by decide), ck_n (by omega), ck_n (by omega), cl_n (by omega), h8, h7]
  unfold aFind
  rcases r_found (n := n) (j := j) hn hB hTx h99 hF hG hl with ⟨s, o, y1, y2, y3, y4, y5⟩ | ⟨s, t0, y1, y2, y3, y4, y5, y6⟩ | ⟨y1, y2, y3⟩
  · rw [y4, ob0_s, if_neg (m1_ne (by omega)), show (10000 : Int32) = nI 10000 from rfl, ile_n (by omega), ck_n (by omega), cl_n (by omega), y2]
    cases o with
    | none =>
      have y3 : b 115 s = 3 := y3
      rw [y3, if_pos (by decide)]
      exact r_truth2 hT false
    | some t =>
      rw [if_neg (rV_no3 y3)]
      exact r_truth2 hT true
  · rw [y5, ob0_s, if_neg (m1_ne (by omega)), show (10000 : Int32) = nI 10000 from rfl, ile_p (by omega), y2, y3]
    exact r_truth2 hT true
  · rw [y3, ob0_s, if_pos rfl, y1, y2]
    exact r_truth2 hT false
theorem r_arity {n : Nat} {i : Nat → Int32} {j : Nat → Int64} {a : Nat → Nat → Int32} {b : Nat → Nat → Int64} {B : RB4} {ps : List Proc} {w : List Nat} {x : Nat} {v4 : Int64} (hn : 1000 ≤ n) (hw : rW a B x w) (hP : rPr i a b B ps) :
    (pFind ps w = none ∧ m_Model_named n i j a b (nI 54) (vW x) v4 = some (i, j, a, b, vN (-1))) ∨ (∃ k, ∃ h : k < ps.length, pFind ps w = some k ∧ m_Model_named n i j a b (nI 54) (vW x) v4 = some (i, j, a, b, vN ((ps[k]'h).2.1.length : Int))) := by
  have hx : x < 120000 := by have := hw.1; have := hw.2.1; omega
  have h40 := hP.2.1
  have hpo := r_procedureOf (n := n) (i := i) (j := j) (by omega) hw hP
  unfold m_Model_named
  rw [r_whatW (by omega), ob0_s, if_neg (by decide), if_neg (by decide), if_neg (by decide), if_neg (by decide), if_neg (by decide), if_pos (by decide)]
  cases hf : pFind ps w with
  | none =>
    have hp2 : m_Model_procedureOf n i j a b (nI x) = some (-1) := by rw [hpo, hf]
    refine Or.inl ⟨rfl, ?_⟩
    have hm1 : m_Model_number n (-1 : Int32) = some (vN (-1)) := by
      rw [show (-1 : Int32) = Int32.ofInt (-1) by decide]
      exact r_number (by decide) (by decide)
    rw [hp2, ob0_s, if_pos rfl, hm1, ob0_s]
  | some k =>
    obtain ⟨hk, _⟩ := pFind_at ps w k hf
    have hp2 : m_Model_procedureOf n i j a b (nI x) = some (nI k) := by rw [hpo, hf]
    obtain ⟨_, k3, k4, _, _⟩ := hP.2.2 k hk
    refine Or.inr ⟨k, hk, rfl, ?_⟩
    rw [hp2, ob0_s, if_neg (m1_ne (by omega)), ck_n (by omega), cl_n (by omega), k3, nI_ofInt, r_number (by omega) (by omega), ob0_s]
theorem r_text {n : Nat} {i : Nat → Int32} {j : Nat → Int64} {a : Nat → Nat → Int32} {b : Nat → Nat → Int64} {B : RB4} {ps : List Proc} {w : List Nat} {x : Nat} {v4 : Int64} (hn : 1000 ≤ n) (hw : rW a B x w) (hP : rPr i a b B ps) :
    (pFind ps w = none ∧ m_Model_named n i j a b (nI 55) (vW x) v4 = some (rFail i 1, j, a, b, 3)) ∨ (∃ k, ∃ h : k < ps.length, pFind ps w = some k ∧ ∃ v, m_Model_named n i j a b (nI 55) (vW x) v4 = some (i, j, a, b, v) ∧ rV a b B (ps[k]'h).2.2 none v) := by
  have hx : x < 120000 := by have := hw.1; have := hw.2.1; omega
  have h40 := hP.2.1
  have hpo := r_procedureOf (n := n) (i := i) (j := j) (by omega) hw hP
  unfold m_Model_named
  rw [r_whatW (by omega), ob0_s, if_neg (by decide), if_neg (by decide), if_neg (by decide), if_neg (by decide), if_neg (by decide), if_neg (by decide)]
  cases hf : pFind ps w with
  | none =>
    have hp2 : m_Model_procedureOf n i j a b (nI x) = some (-1) := by rw [hpo, hf]
    refine Or.inl ⟨rfl, ?_⟩
    rw [hp2, ob0_s, if_pos rfl, show (1 : Int32) = nI 1 from rfl, r_fails, om_s]
  | some k =>
    obtain ⟨hk, _⟩ := pFind_at ps w k hf
    have hp2 : m_Model_procedureOf n i j a b (nI x) = some (nI k) := by rw [hpo, hf]
    obtain ⟨_, _, _, _, k6⟩ := hP.2.2 k hk
    refine Or.inr ⟨k, hk, rfl, b 32 k, ?_, k6⟩
    rw [hp2, ob0_s, if_neg (m1_ne (by omega)), ck_n (by omega), cl_n (by omega)]

