/-! a name, found by the reference -/
theorem rUp_b {a : Nat → Nat → Int32} {b b' : Nat → Nat → Int64} {B : RB4} (hb : b' 10 = b 10) (hB : B.1 ≤ 120000 ∧ B.2.1 ≤ 300000 ∧ B.2.2.1 ≤ 90000 ∧ B.2.2.2 ≤ 90000) : rUp a b B a b' B := ⟨⟨Nat.le_refl _, hB.1, Nat.le_refl _, hB.2.1, Nat.le_refl _, hB.2.2.1, Nat.le_refl _, hB.2.2.2⟩, fun _ _ => ⟨rfl, rfl⟩, fun _ _ => rfl, fun _ _ => ⟨rfl, rfl, rfl⟩, fun _ _ => by rw [hb]⟩
theorem rLs_up {a a' : Nat → Nat → Int32} {b b' : Nat → Nat → Int64} {B B' : RB4} (hu : rUp a b B a' b' B') {c : Nat} {ls : List Loc} (h1 : ∀ m, m < ls.length → a' 114 (c + m) = a 114 (c + m) ∧ b' 115 (c + m) = b 115 (c + m)) (h : rLs a b B c ls) : rLs a' b' B' c ls := fun m hm => by
  obtain ⟨⟨x, g1, g2⟩, g3⟩ := h m hm
  obtain ⟨e1, e2⟩ := h1 m hm
  exact ⟨⟨x, e1.trans g1, rW_up hu g2⟩, by rw [e2]; exact rO_up hu g3⟩
theorem rFr_up {a a' : Nat → Nat → Int32} {b b' : Nat → Nat → Int64} {B B' : RB4} (hu : rUp a b B a' b' B') : ∀ (F : List Fr), (∀ x, x < F.length → a' 113 x = a 113 x) → (∀ x, x < 12 * F.length → a' 114 x = a 114 x ∧ b' 115 x = b 115 x) → rFr a b B F → rFr a' b' B' F := by
  intro F
  induction F with
  | nil => intro _ _ _; trivial
  | cons f F ih =>
    intro h1 h2 h
    obtain ⟨⟨g1, g2, g3⟩, g4, g5⟩ := h
    rw [List.length_cons] at h1 h2
    exact ⟨⟨(h1 _ (by omega)).trans g1, g2, g3⟩, rLs_up hu (fun m hm => h2 _ (by omega)) g4, ih (fun x hx => h1 x (by omega)) (fun x hx => h2 x (by omega)) g5⟩
theorem rGl_up {a a' : Nat → Nat → Int32} {b b' : Nat → Nat → Int64} {B B' : RB4} (hu : rUp a b B a' b' B') {i i' : Nat → Int32} {Gl : List (Nm × Tr)} (h0 : i' 36 = i 36) (h1 : ∀ m, m < Gl.length → a' 34 m = a 34 m ∧ b' 35 m = b 35 m) (h : rGl i a b B Gl) : rGl i' a' b' B' Gl := by
  obtain ⟨g1, g2, g3⟩ := h
  refine ⟨h0.trans g1, g2, fun m hm => ?_⟩
  obtain ⟨⟨x, k1, k2⟩, k3⟩ := g3 m hm
  obtain ⟨e1, e2⟩ := h1 m hm
  exact ⟨⟨x, e1.trans k1, rW_up hu k2⟩, by rw [e2]; exact (rV_up hu _).1 _ k3⟩
theorem fSet_len' : ∀ (F : List Fr) (w : Nm) (t : Tr), (fSet F w t).length = F.length := by
  intro F
  induction F with
  | nil => intro _ _; rfl
  | cons f F ih =>
    intro w t
    unfold fSet
    cases lGet f.2 w with
    | none => show (fSet F w t).length + 1 = F.length + 1; rw [ih]
    | some _ => rfl
theorem svl_10 {b : Nat → Nat → Int64} {k s : Nat} {v : Int64} (h : k ≠ 10) : svl b k s v 10 = b 10 := updB_ne (fun e => h e.symm)
theorem r_found_f {n : Nat} {i : Nat → Int32} {j : Nat → Int64} {a : Nat → Nat → Int32} {b : Nat → Nat → Int64} {B : RB4} {w : List Nat} {q : Nat} (hn : 1000 ≤ n) (hB : B.1 ≤ 120000 ∧ B.2.1 ≤ 300000 ∧ B.2.2.1 ≤ 90000 ∧ B.2.2.2 ≤ 90000) (hw : rT a q w) : ∀ (F : List Fr) (f : Nat), rFr a b B F → F.length < f →
    (fGet F w = none ∧ m_Model_found_b7 n i j a b f (nI q) (nI w.length) (nI F.length + -1) = m_Model_found_b83 n i j a b n (nI q) (nI w.length) 0) ∨
    (∃ s o, s < 12 * F.length ∧ fGet F w = some o ∧ rO a b B o (b 115 s) ∧ m_Model_found_b7 n i j a b f (nI q) (nI w.length) (nI F.length + -1) = some (nI s) ∧ ∀ t v, rV a b B t none v → rFr a (svl b 115 s v) B (fSet F w t)) := by
  intro F
  induction F with
  | nil =>
    intro f h hf
    obtain ⟨f, rfl⟩ : ∃ f', f = f' + 1 := ⟨f - 1, by simp at hf; omega⟩
    refine Or.inl ⟨rfl, ?_⟩
    rw [List.length_nil, m_Model_found_b7, if_pos (by decide)]
  | cons fr F ih =>
    intro f h hf
    rw [List.length_cons] at hf
    obtain ⟨f, rfl⟩ : ∃ f', f = f' + 1 := ⟨f - 1, by omega⟩
    obtain ⟨⟨g1, g2, g3⟩, g4, g5⟩ := h
    have hneg : nI (F.length + 1) + -1 = nI F.length := by
      show nI (F.length + 1) + -nI 1 = nI F.length
      rw [← Int32.sub_eq_add_neg, sub_n (by omega), show F.length + 1 - 1 = F.length by omega]
    have e12 : (12 : Int32) * nI F.length = nI (12 * F.length) := by rw [show (12 : Int32) = nI 12 from rfl, pk_mul]
    have step : m_Model_found_b7 n i j a b (f + 1) (nI q) (nI w.length) (nI (fr :: F).length + -1) = m_Model_found_b17 n i j a b (m_Model_found_b7 n i j a b f) n (nI q) (nI w.length) (nI F.length) (nI (12 * F.length + 0)) := by
      rw [List.length_cons, hneg, m_Model_found_b7, show (0 : Int32) = nI 0 from rfl, ilt_n (by omega), ob1_s, e12, Nat.add_zero]
    rw [step]
    rcases r_found_l (n := n) (i := i) (j := j) (b := b) (B := B) (rc := m_Model_found_b7 n i j a b f) (by omega) hw g3 ⟨g1, g2⟩ fr.2 0 n (by rw [Nat.add_zero]; exact g4) (by omega) (by omega) with ⟨y1, y2⟩ | ⟨s, hs, y1, y2, y3, y4⟩
    · have e1 : fGet (fr :: F) w = fGet F w := by
        show (match lGet fr.2 w with | some v => some v | none => fGet F w) = _
        rw [y1]
      have e2 : ∀ t, fSet (fr :: F) w t = fr :: fSet F w t := fun t => by
        show (match lGet fr.2 w with | some _ => (fr.1, lSet fr.2 w t) :: F | none => fr :: fSet F w t) = _
        rw [y1]
      rw [y2, e1]
      rcases ih f g5 (by omega) with ⟨z1, z2⟩ | ⟨s, o, z1, z2, z3, z4, z5⟩
      · exact Or.inl ⟨z1, z2⟩
      · refine Or.inr ⟨s, o, by rw [List.length_cons]; omega, z2, z3, z4, fun t v hv => ?_⟩
        rw [e2]
        refine ⟨⟨by rw [fSet_len']; exact g1, g2, by rw [fSet_len']; exact g3⟩, ?_, z5 t v hv⟩
        rw [fSet_len']
        exact rLs_up (rUp_b (svl_10 (by decide)) hB) (fun m hm => ⟨rfl, by show vp_updL (b 115) s v _ = _; exact updL_ne (by omega)⟩) g4
    · have e1 : fGet (fr :: F) w = some fr.2[s].2 := by
        show (match lGet fr.2 w with | some v => some v | none => fGet F w) = _
        rw [y1]
      have e2 : ∀ t, fSet (fr :: F) w t = (fr.1, fr.2.set s (w, some t)) :: F := fun t => by
        show (match lGet fr.2 w with | some _ => (fr.1, lSet fr.2 w t) :: F | none => fr :: fSet F w t) = _
        rw [y1, y3]
      refine Or.inr ⟨12 * F.length + s, fr.2[s].2, by rw [List.length_cons]; omega, e1, (g4 s hs).2, by rw [y4, Nat.add_zero], fun t v hv => ?_⟩
      rw [e2]
      refine ⟨⟨by show a 113 F.length = nI (fr.2.set s (w, some t)).length; rw [List.length_set]; exact g1, by show (fr.2.set s (w, some t)).length ≤ 12; rw [List.length_set]; exact g2, g3⟩, ?_, ?_⟩
      · intro m hm
        have hm2 : m < fr.2.length := by
          have : m < (fr.2.set s (w, some t)).length := hm
          rw [List.length_set] at this; exact this
        obtain ⟨⟨x, k1, k2⟩, k3⟩ := g4 m hm2
        rcases Classical.em (s = m) with c | c
        · subst c
          refine ⟨⟨x, k1, ?_⟩, ?_⟩
          · show rW a B x ((fr.2.set s (w, some t))[s]'hm).1
            rw [List.getElem_set_self, ← y2]; exact k2
          · show rO a _ B ((fr.2.set s (w, some t))[s]'hm).2 (vp_updL (b 115) (12 * F.length + s) v (12 * F.length + s))
            rw [List.getElem_set_self, updL_at]
            exact (rV_up (rUp_b (svl_10 (by decide)) hB) t).1 v hv
        · refine ⟨⟨x, k1, ?_⟩, ?_⟩
          · show rW a B x ((fr.2.set s (w, some t))[m]'hm).1
            rw [List.getElem_set_ne c]; exact k2
          · show rO a _ B ((fr.2.set s (w, some t))[m]'hm).2 (vp_updL (b 115) (12 * F.length + s) v (12 * F.length + m))
            rw [List.getElem_set_ne c, updL_ne (by omega)]
            exact rO_up (rUp_b (svl_10 (by decide)) hB) k3
      · exact rFr_up (rUp_b (svl_10 (by decide)) hB) F (fun _ _ => rfl) (fun x hx => ⟨rfl, by show vp_updL (b 115) _ v _ = _; exact updL_ne (by omega)⟩) g5
/-- where a name is: in a call, outside, nowhere -/
theorem r_found {n : Nat} {i : Nat → Int32} {j : Nat → Int64} {a : Nat → Nat → Int32} {b : Nat → Nat → Int64} {B : RB4} {w : List Nat} {q : Nat} {F : List Fr} {Gl : List (Nm × Tr)} (hn : 1000 ≤ n) (hB : B.1 ≤ 120000 ∧ B.2.1 ≤ 300000 ∧ B.2.2.1 ≤ 90000 ∧ B.2.2.2 ≤ 90000) (hw : rT a q w) (h99 : i 99 = nI F.length) (hF : rFr a b B F) (hG : rGl i a b B Gl) (hl : F.length ≤ 150) :
    (∃ s o, s < 1800 ∧ fGet F w = some o ∧ rO a b B o (b 115 s) ∧ m_Model_found n i j a b (nI q) (nI w.length) = some (nI s) ∧ ∀ t v, rV a b B t none v → rFr a (svl b 115 s v) B (fSet F w t)) ∨
    (∃ s t0, s < 64 ∧ fGet F w = none ∧ gGet Gl w = some t0 ∧ rV a b B t0 none (b 35 s) ∧ m_Model_found n i j a b (nI q) (nI w.length) = some (nI (10000 + s)) ∧ ∀ t v, rV a b B t none v → rGl i a (svl b 35 s v) B (gSet Gl w t)) ∨
    (fGet F w = none ∧ gGet Gl w = none ∧ m_Model_found n i j a b (nI q) (nI w.length) = some (-1)) := by
  have e0 : m_Model_found n i j a b (nI q) (nI w.length) = m_Model_found_b7 n i j a b n (nI q) (nI w.length) (nI F.length + -1) := by
    unfold m_Model_found
    rw [ob1_s, h99, Int32.sub_eq_add_neg]
  rw [e0]
  rcases r_found_f (n := n) (i := i) (j := j) hn hB hw F n hF (by omega) with ⟨y1, y2⟩ | ⟨s, o, y1, y2, y3, y4, y5⟩
  · refine Or.inr ?_
    have e1 := hG.2.1
    rcases r_found_g (n := n) (i := i) (j := j) (by omega) hw hG Gl.length 0 n (by omega) (by omega) with ⟨z1, z2⟩ | ⟨s, hs, z1, z2, z3, z4⟩
    · refine Or.inr ⟨y1, z1, ?_⟩
      rw [y2]; exact z2
    · refine Or.inl ⟨s, ?_⟩
      simp only [Nat.zero_add] at hs z1 z2 z3 z4
      rw [List.drop_zero] at z1 z3
      obtain ⟨hG1, hG2, hG3⟩ := hG
      refine ⟨(Gl[s]'hs).2, by omega, y1, z1, (hG3 s hs).2, ?_, fun t v hv => ?_⟩
      · rw [y2]; exact z4
      · rw [z3]
        refine ⟨by rw [List.length_set]; exact hG1, by rw [List.length_set]; exact hG2, fun m hm => ?_⟩
        have hm2 : m < Gl.length := by rw [List.length_set] at hm; exact hm
        obtain ⟨⟨x, k1, k2⟩, k3⟩ := hG3 m hm2
        rcases Classical.em (s = m) with c | c
        · subst c
          refine ⟨⟨x, k1, ?_⟩, ?_⟩
          · rw [List.getElem_set_self, ← z2]; exact k2
          · rw [List.getElem_set_self]
            show rV a _ B t none (vp_updL (b 35) s v s)
            rw [updL_at]
            exact (rV_up (rUp_b (svl_10 (by decide)) hB) t).1 v hv
        · refine ⟨⟨x, k1, ?_⟩, ?_⟩
          · rw [List.getElem_set_ne c]; exact k2
          · rw [List.getElem_set_ne c]
            show rV a _ B _ none (vp_updL (b 35) s v m)
            rw [updL_ne (by omega)]
            exact (rV_up (rUp_b (svl_10 (by decide)) hB) _).1 _ k3
  · exact Or.inl ⟨s, o, by omega, y2, y3, y4, y5⟩

