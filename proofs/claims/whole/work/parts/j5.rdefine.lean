/-! define, in the reference -/
theorem rC_7 {a a' : Nat → Nat → Int32} {b : Nat → Nat → Int64} {B : RB4} {x : Nat} {l : List Nat} (hB : B.1 ≤ 120000 ∧ B.2.1 ≤ 300000 ∧ B.2.2.1 ≤ 90000 ∧ B.2.2.2 ≤ 90000) (hC : rC a b B) (h1 : ∀ q, q ≠ 7 → a' q = a q) (h2 : ∀ y, y ≠ x → a' 7 y = a 7 y) (hw : rW a B x l) (h3 : rPm a' x l) : rUp a b B a' b B ∧ rC a' b B := by
  have hu : rUp a b B a' b B := rUp_same ⟨h1 1 (by decide), h1 3 (by decide), h1 4 (by decide), h1 12 (by decide), h1 13 (by decide), h1 14 (by decide), rfl⟩ hB
  refine ⟨hu, fun y hy => ?_, ?_⟩
  · obtain ⟨r, hr⟩ := hC.1 y hy
    rcases Classical.em (y = x) with c | c
    · subst c
      have er := rW_fun hr.1 hw
      subst er
      exact ⟨r, rW_up hu hw, h3, hr.2.2.elim Or.inl (fun ⟨t, k1, k2⟩ => Or.inr ⟨t, k1, (rV_up hu t).1 _ k2⟩)⟩
    · exact ⟨r, rK_up hu (h2 y c) rfl hr⟩
  · rw [phi_congr (a := a) (b := b) B.1 (fun y _ => ⟨by rw [h1 4 (by decide)], rfl⟩)]
    exact hC.2
theorem r_def75 {n : Nat} {i : Nat → Int32} {j : Nat → Int64} {a : Nat → Nat → Int32} {b : Nat → Nat → Int64} {v1 : Int32} {v2 : Int64} (hn : 1 ≤ n) : m_Model_defined_b75 n i j a b v1 v2 = some (rFail i 3, j, a, b, 3) := by
  obtain ⟨f, rfl⟩ : ∃ f, n = f + 1 := ⟨n - 1, by omega⟩
  unfold m_Model_defined_b75 m_Model_defined_b76
  rw [if_pos rfl]
  unfold m_Model_defined_b93
  rw [m_Model_defined_b98, if_pos rfl]
  exact r_def190
/-- what is asked of a definition -/
def dOk (w : Nm) (d0 d1 : Tr) : Prop := aLex w = 0 ∧ isL d0 = true ∧ isL d1 = true ∧ (tMem d0).length ≤ 5 ∧ tSz d1 ≤ 600
theorem aDef_no2 {w : Nm} {t : Tr} {ps : List Proc} (h : ∀ d0 d1, tMem t = [d0, d1] → ¬ dOk w d0 d1) : aDefine w t ps = .error 3 := by
  unfold aDefine
  split
  · rename_i d0 d1 e
    have hn := h d0 d1 e
    split
    · rename_i hc
      have : aInputs (tMem d0) = none := by
        unfold aInputs
        rw [if_neg]
        rintro ⟨h5, _⟩
        exact hn ⟨hc.1, hc.2.1, hc.2.2.1, h5, hc.2.2.2⟩
      rw [this]
    · rfl
  · rfl
theorem aDef_2 {w : Nm} {t d0 d1 : Tr} {ps : List Proc} (e : tMem t = [d0, d1]) (h : dOk w d0 d1) : aDefine w t ps = if dec ((∀ v ∈ tMem d0, isW v = true) ∧ ((tMem d0).map tLet).Nodup) = true then (if pFind ps w = none ∧ 40 ≤ ps.length then .error 8 else .ok (pTell ps w ((tMem d0).map tLet) d1)) else .error 3 := by
  obtain ⟨h1, h2, h3, h4, h5⟩ := h
  unfold aDefine
  rw [e]
  show (if aLex w = 0 ∧ isL d0 = true ∧ isL d1 = true ∧ tSz d1 ≤ 600 then _ else _) = _
  rw [if_pos ⟨h1, h2, h3, h5⟩]
  unfold aInputs
  rcases Classical.em ((∀ v ∈ tMem d0, isW v = true) ∧ ((tMem d0).map tLet).Nodup) with c | c
  · rw [if_pos ⟨h4, c⟩, dec_t c, if_pos rfl]
  · rw [if_neg (fun hh => c hh.2), dec_f c, if_neg (by decide)]
/-- the whole of what define does, the name being one and the list being right -/
theorem r_def226 {n : Nat} {i : Nat → Int32} {j : Nat → Int64} {a : Nat → Nat → Int32} {b : Nat → Nat → Int64} {B : RB4} {ps : List Proc} {w : Nm} {x : Nat} {is : List Tr} {body : Tr} {v2 v5 : Int64} (hn : 1000 ≤ n) (hB : B.1 ≤ 120000 ∧ B.2.1 ≤ 300000 ∧ B.2.2.1 ≤ 90000 ∧ B.2.2.2 ≤ 90000) (hw : rW a B x w) (hP : rPr i a b B ps) (hr : pFind ps w = none → ps.length < 40) (h5 : is.length ≤ 5) (hiw : ∀ m ∈ is, isW m = true) (hv5 : rV a b B (tL is) none v5) (hv2 : rV a b B (tL [tL is, body]) none v2) :
    ∃ i' a' b', m_Model_defined_b226 n i j a b (nI x) v2 v5 = some (i', j, a', b', 3) ∧ rPr i' a' b' B (pTell ps w (is.map tLet) body) ∧ rUp a b B a' b' B ∧ (∀ q, q ≠ 33 → i' q = i q) ∧ (∀ q, q ≠ 29 → q ≠ 30 → q ≠ 31 → a' q = a q) ∧ (∀ q, q ≠ 32 → b' q = b q) := by
  have h40 := hP.2.1
  have key : ∀ (i1 : Nat → Int32) (a1 : Nat → Nat → Int32) (k : Nat), (∀ q, q ≠ 33 → i1 q = i q) → (∀ q, q ≠ 29 → a1 q = a q) → (∀ m, m ≠ k → a1 29 m = a 29 m) → (∃ y, a1 29 k = nI y ∧ rW a B y w) → k < 40 → (pFind ps w = some k ∨ (pFind ps w = none ∧ k = ps.length ∧ ps.length < 40)) → i1 33 = nI (pTell ps w (is.map tLet) body).length → m_Model_tell n i j a b (nI x) = some (i1, j, a1, b, nI k) → ∃ i' a' b', m_Model_defined_b226 n i j a b (nI x) v2 v5 = some (i', j, a', b', 3) ∧ rPr i' a' b' B (pTell ps w (is.map tLet) body) ∧ rUp a b B a' b' B ∧ (∀ q, q ≠ 33 → i' q = i q) ∧ (∀ q, q ≠ 29 → q ≠ 30 → q ≠ 31 → a' q = a q) ∧ (∀ q, q ≠ 32 → b' q = b q) := by
    intro i1 a1 k q1 q2 q3 q4 hk q5 q6 q7
    have hs : ∀ r, r ≠ 29 → r ≠ 30 → sv a1 30 k (nI is.length) r = a r := fun r r1 r2 => (updA_ne r2).trans (q2 r r1)
    have hu1 : rUp a b B (sv a1 30 k (nI is.length)) b B := rUp_same ⟨hs 1 (by decide) (by decide), hs 3 (by decide) (by decide), hs 4 (by decide) (by decide), hs 12 (by decide) (by decide), hs 13 (by decide) (by decide), hs 14 (by decide) (by decide), rfl⟩ hB
    have hu0 : rUp a b B a1 b B := rUp_same ⟨q2 1 (by decide), q2 3 (by decide), q2 4 (by decide), q2 12 (by decide), q2 13 (by decide), q2 14 (by decide), rfl⟩ hB
    obtain ⟨a', v, z1, z2, z3, z4, z5⟩ := r_defset (n := n) (i := i1) (j := j) (a0 := sv a1 30 k (nI is.length)) hB hk h5 hiw ((rV_up hu1 _).1 _ hv5) ((rV_up hu1 _).1 _ hv2) is.length 0 n (sv a1 30 k (nI is.length)) (by omega) (by omega) (fun _ _ => rfl) (fun z _ hz => absurd hz (Nat.not_lt_zero z))
    have hu2 : rUp (sv a1 30 k (nI is.length)) b B a' (svl b 32 k v) B := rUp_same ⟨z3 1 (by decide), z3 3 (by decide), z3 4 (by decide), z3 12 (by decide), z3 13 (by decide), z3 14 (by decide), svl_10 (by decide)⟩ hB
    have hu := rUp_trans hu1 hu2
    refine ⟨i1, a', svl b 32 k v, ?_, rPr_tell hu hP q5 q6 (fun m hm hne => ⟨?_, ?_, ?_, fun q hq => ?_⟩) ⟨?_, ?_, by rw [List.length_map]; exact h5, fun q hq => ?_, ?_⟩, hu, q1, fun q r1 r2 r3 => (z3 q r3).trans (hs q r1 r2), fun q hq => updB_ne hq⟩
    · unfold m_Model_defined_b226
      rw [q7, om_s, r_size ((rV_up hu0 _).1 _ hv5), ob0_s, ck_n (by omega), ob1_s, cl_n (by omega)]
      exact z1
    · rw [z3 29 (by decide)]; exact q3 m hne
    · rw [z3 30 (by decide)]
      show upd (a1 30) k _ m = _
      rw [upd_ne hne, q2 30 (by decide)]
    · show vp_updL (b 32) k v m = _
      rw [updL_ne hne]
    · rw [z4 _ (by omega), hs 31 (by decide) (by decide)]
    · obtain ⟨y, y1, y2⟩ := q4
      exact ⟨y, by rw [z3 29 (by decide)]; exact y1, rW_up hu y2⟩
    · rw [z3 30 (by decide), List.length_map]
      show upd (a1 30) k _ k = _
      rw [upd_at]
    · rw [List.length_map] at hq
      obtain ⟨y, y1, y2⟩ := z5 q hq
      exact ⟨y, y1, by rw [List.getElem_map]; exact rW_up hu2 y2⟩
    · show rV _ _ _ _ none (vp_updL (b 32) k v k)
      rw [updL_at]
      exact (rV_up hu2 _).1 _ z2
  rcases r_tell (n := n) (j := j) (by omega) hw hP hr with ⟨k, t1, t2, t3⟩ | ⟨t1, t3⟩
  · have ep : (pTell ps w (is.map tLet) body).length = ps.length := by unfold pTell; rw [t1]; exact List.length_set
    obtain ⟨⟨y, y1, y2⟩, _⟩ := hP.2.2 k t2
    obtain ⟨_, hn2⟩ := pFind_at ps w k t1
    exact key i a k (fun _ _ => rfl) (fun _ _ => rfl) (fun _ _ => rfl) ⟨y, y1, by rw [← hn2]; exact y2⟩ (by omega) (Or.inl t1) (by rw [ep]; exact hP.1) t3
  · have ep : (pTell ps w (is.map tLet) body).length = ps.length + 1 := by unfold pTell; rw [t1]; exact List.length_append
    have hlt := hr t1
    exact key _ _ ps.length (fun q hq => upd_ne hq) (fun q hq => updA_ne hq) (fun m hm => by show upd (a 29) _ _ m = _; rw [upd_ne hm]) ⟨x, by show upd (a 29) _ _ _ = _; rw [upd_at], hw⟩ hlt (Or.inr ⟨t1, rfl, hlt⟩) (by rw [ep, upd_at]) t3

