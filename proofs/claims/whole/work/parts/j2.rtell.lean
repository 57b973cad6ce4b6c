/-! procedures told to the reference -/
theorem r_tell {n : Nat} {i : Nat → Int32} {j : Nat → Int64} {a : Nat → Nat → Int32} {b : Nat → Nat → Int64} {B : RB4} {ps : List Proc} {w : List Nat} {x : Nat} (hn : 100 ≤ n) (hw : rW a B x w) (hP : rPr i a b B ps) (hr : pFind ps w = none → ps.length < 40) :
    (∃ k, pFind ps w = some k ∧ k < ps.length ∧ m_Model_tell n i j a b (nI x) = some (i, j, a, b, nI k)) ∨ (pFind ps w = none ∧ m_Model_tell n i j a b (nI x) = some (upd i 33 (nI (ps.length + 1)), j, sv a 29 ps.length (nI x), b, nI ps.length)) := by
  have hp := r_procedureOf (n := n) (j := j) hn hw hP
  unfold m_Model_tell
  rw [hp, ob0_s]
  cases hf : pFind ps w with
  | some k =>
    obtain ⟨hk, _⟩ := pFind_at ps w k hf
    have := hP.2.1
    refine Or.inl ⟨k, rfl, hk, ?_⟩
    show (if nI k = -1 then _ else _) = _
    rw [if_neg (m1_ne (by omega))]
  | none =>
    have h40 := hr hf
    refine Or.inr ⟨rfl, ?_⟩
    show (if (-1 : Int32) = -1 then _ else _) = _
    rw [if_pos rfl, ob1_s, ob1_s, ob1_s, hP.1, ck_n (by omega), ob1_s, cl_n (by omega), show (1 : Int32) = nI 1 from rfl, nI_add]
theorem rPr_tell {a a' : Nat → Nat → Int32} {b b' : Nat → Nat → Int64} {B B' : RB4} (hu : rUp a b B a' b' B') {i i' : Nat → Int32} {ps : List Proc} {w : Nm} {ns : List Nm} {body : Tr} {k : Nat} (hP : rPr i a b B ps) (hk : pFind ps w = some k ∨ (pFind ps w = none ∧ k = ps.length ∧ ps.length < 40)) (h33 : i' 33 = nI (pTell ps w ns body).length)
    (hold : ∀ m, m < ps.length → m ≠ k → a' 29 m = a 29 m ∧ a' 30 m = a 30 m ∧ b' 32 m = b 32 m ∧ ∀ q, q < 5 → a' 31 (5 * m + q) = a 31 (5 * m + q))
    (hnew : (∃ x, a' 29 k = nI x ∧ rW a' B' x w) ∧ a' 30 k = nI ns.length ∧ ns.length ≤ 5 ∧ (∀ q (h2 : q < ns.length), ∃ y, a' 31 (5 * k + q) = nI y ∧ rW a' B' y (ns[q]'h2)) ∧ rV a' b' B' body none (b' 32 k)) : rPr i' a' b' B' (pTell ps w ns body) := by
  obtain ⟨g1, g2, g3⟩ := hP
  have old : ∀ m (h : m < ps.length), m ≠ k → (∃ x, a' 29 m = nI x ∧ rW a' B' x (ps[m]'h).1) ∧ a' 30 m = nI (ps[m]'h).2.1.length ∧ (ps[m]'h).2.1.length ≤ 5 ∧ (∀ q (h2 : q < (ps[m]'h).2.1.length), ∃ y, a' 31 (5 * m + q) = nI y ∧ rW a' B' y ((ps[m]'h).2.1[q]'h2)) ∧ rV a' b' B' (ps[m]'h).2.2 none (b' 32 m) := fun m hm hne => by
    obtain ⟨⟨x, k1, k2⟩, k3, k4, k5, k6⟩ := g3 m hm
    obtain ⟨e1, e2, e3, e4⟩ := hold m hm hne
    refine ⟨⟨x, e1.trans k1, rW_up hu k2⟩, e2.trans k3, k4, fun q hq => ?_, by rw [e3]; exact (rV_up hu _).1 _ k6⟩
    obtain ⟨y, z1, z2⟩ := k5 q hq
    exact ⟨y, (e4 q (by omega)).trans z1, rW_up hu z2⟩
  rcases hk with hk | ⟨hk, rfl, h40⟩
  · have ep : pTell ps w ns body = ps.set k (w, ns, body) := by unfold pTell; rw [hk]
    rw [ep] at h33 ⊢
    refine ⟨h33, by rw [List.length_set]; exact g2, fun m hm => ?_⟩
    have hm2 : m < ps.length := by rw [List.length_set] at hm; exact hm
    rcases Classical.em (k = m) with c | c
    · subst c
      have e9 : (ps.set k (w, ns, body))[k]'hm = (w, ns, body) := List.getElem_set_self _
      rw [e9]
      exact hnew
    · have e9 : (ps.set k (w, ns, body))[m]'hm = ps[m]'hm2 := List.getElem_set_ne c _
      rw [e9]
      exact old m hm2 (fun e => c e.symm)
  · have ep : pTell ps w ns body = ps ++ [(w, ns, body)] := by unfold pTell; rw [hk]
    rw [ep] at h33 ⊢
    refine ⟨h33, by rw [List.length_append]; show ps.length + 1 ≤ 40; omega, fun m hm => ?_⟩
    have hm2 : m < ps.length + 1 := by rw [List.length_append] at hm; exact hm
    rcases Nat.lt_or_ge m ps.length with c | c
    · have e9 : (ps ++ [(w, ns, body)])[m]'hm = ps[m]'c := List.getElem_append_left c
      rw [e9]
      exact old m c (by omega)
    · have em : m = ps.length := by omega
      subst em
      have e9 : (ps ++ [(w, ns, body)])[ps.length]'hm = (w, ns, body) := List.getElem_concat_length rfl _
      rw [e9]
      exact hnew

