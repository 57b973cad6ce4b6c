/-! local names and procedures of the reference -/
def rLoA (a : Nat → Nat → Int32) (d c x : Nat) : Nat → Nat → Int32 := sv (sv a 114 (12 * d + c) (nI x)) 113 d (nI (c + 1))
theorem r_local_b {n : Nat} {i : Nat → Int32} {j : Nat → Int64} {a : Nat → Nat → Int32} {b : Nat → Nat → Int64} {B : RB4} {w : List Nat} {x d cnt : Nat} (hn : 100 ≤ n) (hw : rW a B x w) (hd : d < 150) (hc : a 113 d = nI cnt ∧ cnt ≤ 12) : ∀ (ls : List Loc) (k f : Nat), rLs a b B (12 * d + k) ls → k + ls.length = cnt → ls.length < f →
    (lGet ls w = none ∧ m_Model_local_b27 n f i j a b (vW x) (nI d) (nI (12 * d + k)) = if cnt = 12 then some (rFail i 8, j, a, b, 3) else some (i, j, rLoA a d cnt x, svl b 115 (12 * d + cnt) 3, 3)) ∨
    ((∃ o, lGet ls w = some o) ∧ m_Model_local_b27 n f i j a b (vW x) (nI d) (nI (12 * d + k)) = some (i, j, a, b, 3)) := by
  have e12 : (12 : Int32) * nI d = nI (12 * d) := by rw [show (12 : Int32) = nI 12 from rfl, pk_mul]
  have hx : x < 120000 := by have := hw.1; have := hw.2.1; omega
  intro ls
  induction ls with
  | nil =>
    intro k f h e hf
    obtain ⟨f, rfl⟩ : ∃ f', f = f' + 1 := ⟨f - 1, by simp at hf; omega⟩
    refine Or.inl ⟨rfl, ?_⟩
    rw [List.length_nil] at e
    rw [m_Model_local_b27, ck_n (by omega), cl_n (by omega), hc.1, e12, nI_add, ile_p (by omega), ck_n (by omega), show (12 : Int32) = nI 12 from rfl]
    rcases Classical.em (cnt = 12) with c | c
    · rw [ieq_p c, if_pos c, show (8 : Int32) = nI 8 from rfl, r_fails, om_s]
    · have e5 : sv a 114 (12 * d + cnt) (nI x) 113 = a 113 := rfl
      rw [ieq_n ⟨c, by omega, by omega⟩, if_neg c, ck_n (by omega), r_whatW (by omega), ob0_s, ck_n (by omega), ob1_s, cl_n (by omega), ck_n (by omega), e5, hc.1, nI_add, ck_n (by omega), ob1_s, cl_n (by omega), ck_n (by omega), ck_n (by omega), ob1_s, show (1 : Int32) = nI 1 from rfl, nI_add]
      rfl
  | cons l ls ih =>
    intro k f h e hf
    rw [List.length_cons] at e hf
    obtain ⟨f, rfl⟩ : ∃ f', f = f' + 1 := ⟨f - 1, by omega⟩
    obtain ⟨⟨y, g1, g2⟩, g3⟩ := h 0 (by simp)
    rw [Nat.add_zero] at g1
    have g2 : rW a B y l.1 := g2
    have step : m_Model_local_b27 n (f + 1) i j a b (vW x) (nI d) (nI (12 * d + k)) = (if b1 (decide (l.1 = w)) = 0 then m_Model_local_b27 n f i j a b (vW x) (nI d) (nI (12 * d + (k + 1))) else some (i, j, a, b, 3)) := by
      rw [m_Model_local_b27, ck_n (by omega), cl_n (by omega), hc.1, e12, nI_add, ile_n (by omega), ck_n (by omega), r_whatW (by omega), ob0_s, cl_n (by omega), g1, r_sameWord hn g2 hw, ob0_s, ob1_s, show (1 : Int32) = nI 1 from rfl, nI_add, Nat.add_assoc (12 * d) k 1]
    rcases Classical.em (l.1 = w) with c | c
    · refine Or.inr ⟨⟨l.2, ?_⟩, ?_⟩
      · show (if l.1 = w then some l.2 else lGet ls w) = some l.2
        rw [if_pos c]
      · rw [step, decide_eq_true c, b1_t, if_neg (show ¬ nI 1 = (0 : Int32) by decide)]
    · have hg : lGet (l :: ls) w = lGet ls w := by
        show (if l.1 = w then some l.2 else lGet ls w) = _
        rw [if_neg c]
      rw [step, decide_eq_false c, b1_f, if_pos (show nI 0 = (0 : Int32) from rfl), hg]
      exact ih (k + 1) f (by have := rLs_tail h; rw [Nat.add_assoc] at this; exact this) (by omega) (by omega)
theorem r_local {n : Nat} {i : Nat → Int32} {j : Nat → Int64} {a : Nat → Nat → Int32} {b : Nat → Nat → Int64} {B : RB4} {w : List Nat} {x : Nat} {F : List Fr} (hn : 1000 ≤ n) (hB : B.1 ≤ 120000 ∧ B.2.1 ≤ 300000 ∧ B.2.2.1 ≤ 90000 ∧ B.2.2.2 ≤ 90000) (hw : rW a B x w) (h99 : i 99 = nI F.length) (hF : rFr a b B F) :
    (∃ e, aLocal w F = .error e ∧ m_Model_local n i j a b (vW x) = some (rFail i e, j, a, b, 3)) ∨
    (∃ F' a' b', aLocal w F = .ok F' ∧ m_Model_local n i j a b (vW x) = some (i, j, a', b', 3) ∧ rFr a' b' B F' ∧ (∀ q, q ≠ 113 → q ≠ 114 → a' q = a q) ∧ (∀ q, q ≠ 115 → b' q = b q)) := by
  unfold m_Model_local
  cases F with
  | nil =>
    refine Or.inl ⟨12, rfl, ?_⟩
    rw [h99, List.length_nil, if_pos (by decide), show (12 : Int32) = nI 12 from rfl, r_fails, om_s]
  | cons f R =>
    obtain ⟨⟨g1, g2, g3⟩, g4, g5⟩ := id hF
    have e12 : (12 : Int32) * nI R.length = nI (12 * R.length) := by rw [show (12 : Int32) = nI 12 from rfl, pk_mul]
    rw [h99, List.length_cons, if_neg (nI_ne0 (by omega) (by omega)), ob1_s, show nI (R.length + 1) - 1 = nI R.length from nI_pred _, ob1_s, e12]
    have key := r_local_b (n := n) (i := i) (j := j) (b := b) (by omega) hw g3 ⟨g1, g2⟩ f.2 0 n (by rw [Nat.add_zero]; exact g4) (by omega) (by omega)
    rw [Nat.add_zero] at key
    have ea : aLocal w (f :: R) = match lGet f.2 w with
      | some _ => .ok (f :: R)
      | none => if 12 ≤ f.2.length then .error 8 else .ok ((f.1, f.2 ++ [(w, none)]) :: R) := rfl
    rw [ea]
    rcases key with ⟨y1, y2⟩ | ⟨⟨o, y1⟩, y2⟩
    · rw [y1, y2]
      rcases Classical.em (f.2.length = 12) with c | c
      · refine Or.inl ⟨8, ?_, by rw [if_pos c]⟩
        show (if 12 ≤ f.2.length then _ else _) = _
        rw [if_pos (by omega)]
      · have hs : rSame a (rLoA a R.length f.2.length x) b (svl b 115 (12 * R.length + f.2.length) 3) := ⟨rfl, rfl, rfl, rfl, rfl, rfl, svl_10 (by decide)⟩
        have hu := rUp_same hs hB
        refine Or.inr ⟨(f.1, f.2 ++ [(w, none)]) :: R, rLoA a R.length f.2.length x, svl b 115 (12 * R.length + f.2.length) 3, ?_, by rw [if_neg c], ⟨⟨?_, ?_, g3⟩, ?_, ?_⟩, fun q h1 h2 => ?_, fun q h => updB_ne h⟩
        · show (if 12 ≤ f.2.length then _ else _) = _
          rw [if_neg (by omega)]
        · show upd (a 113) R.length (nI (f.2.length + 1)) R.length = nI (f.2 ++ [(w, none)]).length
          rw [upd_at, List.length_append]
          rfl
        · show (f.2 ++ [(w, none)]).length ≤ 12
          rw [List.length_append]
          show f.2.length + 1 ≤ 12
          omega
        · intro m hm
          have hm1 : m < (f.2 ++ [(w, none)]).length := hm
          rw [List.length_append] at hm1
          have hm1 : m < f.2.length + 1 := hm1
          rcases Nat.lt_or_ge m f.2.length with c2 | c2
          · obtain ⟨⟨y, k1, k2⟩, k3⟩ := g4 m c2
            have e9 : ((f.1, f.2 ++ [(w, none)]) : Fr).2[m]'hm = f.2[m] := List.getElem_append_left c2
            rw [e9]
            refine ⟨⟨y, ?_, rW_up hu k2⟩, ?_⟩
            · show upd (a 114) _ _ _ = _
              rw [upd_ne (by omega)]; exact k1
            · show rO _ _ _ _ (vp_updL (b 115) _ _ _)
              rw [updL_ne (by omega)]
              exact rO_up hu k3
          · have em : m = f.2.length := by omega
            subst em
            have e9 : ((f.1, f.2 ++ [(w, none)]) : Fr).2[f.2.length]'hm = (w, none) := List.getElem_concat_length rfl _
            rw [e9]
            refine ⟨⟨x, ?_, rW_up hu hw⟩, ?_⟩
            · show upd (a 114) _ _ _ = _
              rw [upd_at]
            · show vp_updL (b 115) _ _ _ = 3
              rw [updL_at]
        · refine rFr_up hu R (fun y hy => ?_) (fun y hy => ⟨?_, ?_⟩) g5
          · show upd (a 113) _ _ _ = _
            rw [upd_ne (by omega)]
          · show upd (a 114) _ _ _ = _
            rw [upd_ne (by omega)]
          · show vp_updL (b 115) _ _ _ = _
            rw [updL_ne (by omega)]
        · unfold rLoA sv
          rw [updA_ne h1, updA_ne h2]
    · rw [y1, y2]
      exact Or.inr ⟨f :: R, a, b, rfl, rfl, hF, fun _ _ _ => rfl, fun _ _ => rfl⟩
/-- the procedures -/
def rPr (i : Nat → Int32) (a : Nat → Nat → Int32) (b : Nat → Nat → Int64) (B : RB4) (ps : List Proc) : Prop := i 33 = nI ps.length ∧ ps.length ≤ 40 ∧ ∀ m (h : m < ps.length), (∃ x, a 29 m = nI x ∧ rW a B x (ps[m]'h).1) ∧ a 30 m = nI (ps[m]'h).2.1.length ∧ (ps[m]'h).2.1.length ≤ 5 ∧ (∀ k (h2 : k < (ps[m]'h).2.1.length), ∃ y, a 31 (5 * m + k) = nI y ∧ rW a B y ((ps[m]'h).2.1[k]'h2)) ∧ rV a b B (ps[m]'h).2.2 none (b 32 m)
theorem rPr_up {a a' : Nat → Nat → Int32} {b b' : Nat → Nat → Int64} {B B' : RB4} (hu : rUp a b B a' b' B') {i i' : Nat → Int32} {ps : List Proc} (h0 : i' 33 = i 33) (h1 : ∀ m, m < ps.length → a' 29 m = a 29 m ∧ a' 30 m = a 30 m ∧ b' 32 m = b 32 m) (h2 : ∀ m, m < 5 * ps.length → a' 31 m = a 31 m) (h : rPr i a b B ps) : rPr i' a' b' B' ps := by
  obtain ⟨g1, g2, g3⟩ := h
  refine ⟨h0.trans g1, g2, fun m hm => ?_⟩
  obtain ⟨⟨x, k1, k2⟩, k3, k4, k5, k6⟩ := g3 m hm
  obtain ⟨e1, e2, e3⟩ := h1 m hm
  refine ⟨⟨x, e1.trans k1, rW_up hu k2⟩, e2.trans k3, k4, fun k hk => ?_, by rw [e3]; exact (rV_up hu _).1 _ k6⟩
  obtain ⟨y, z1, z2⟩ := k5 k hk
  exact ⟨y, (h2 _ (by omega)).trans z1, rW_up hu z2⟩
theorem r_procedureOf_b {n : Nat} {i : Nat → Int32} {j : Nat → Int64} {a : Nat → Nat → Int32} {b : Nat → Nat → Int64} {B : RB4} {ps : List Proc} {w : List Nat} {x : Nat} (hn : 100 ≤ n) (hw : rW a B x w) (hP : rPr i a b B ps) : ∀ (m k f : Nat), k + m = ps.length → m < f → m_Model_procedureOf_b2 n i j a b f (nI x) (nI k) = some (match pFind (ps.drop k) w with | none => -1 | some s => nI (k + s)) := by
  obtain ⟨hG1, hG2, hG3⟩ := hP
  intro m
  induction m with
  | zero =>
    intro k f e hf
    obtain ⟨f, rfl⟩ : ∃ f', f = f' + 1 := ⟨f - 1, by omega⟩
    rw [m_Model_procedureOf_b2, hG1, ile_p (by omega), List.drop_of_length_le (by omega)]
    rfl
  | succ m ih =>
    intro k f e hf
    obtain ⟨f, rfl⟩ : ∃ f', f = f' + 1 := ⟨f - 1, by omega⟩
    have hk : k < ps.length := by omega
    obtain ⟨⟨y, g1, g2⟩, _⟩ := hG3 k hk
    have ed : ps.drop k = ps[k] :: ps.drop (k + 1) := List.drop_eq_getElem_cons hk
    have ef : pFind (ps.drop k) w = if ps[k].1 = w then some 0 else (pFind (ps.drop (k + 1)) w).map (· + 1) := by rw [ed]; rfl
    rw [m_Model_procedureOf_b2, hG1, ile_n (by omega), ck_n (by omega), cl_n (by omega), g1, r_sameWord hn g2 hw, ob0_s, ef]
    rcases Classical.em (ps[k].1 = w) with c | c
    · rw [decide_eq_true c, b1_t, if_neg (show ¬ nI 1 = (0 : Int32) by decide), if_pos c]
      rfl
    · rw [decide_eq_false c, b1_f, if_pos (show nI 0 = (0 : Int32) from rfl), if_neg c, ob1_s, show (1 : Int32) = nI 1 from rfl, nI_add, ih (k + 1) f (by omega) (by omega)]
      cases pFind (ps.drop (k + 1)) w with
      | none => rfl
      | some s =>
        show some (nI (k + 1 + s)) = some (nI (k + (s + 1)))
        congr 2
        omega
theorem r_procedureOf {n : Nat} {i : Nat → Int32} {j : Nat → Int64} {a : Nat → Nat → Int32} {b : Nat → Nat → Int64} {B : RB4} {ps : List Proc} {w : List Nat} {x : Nat} (hn : 100 ≤ n) (hw : rW a B x w) (hP : rPr i a b B ps) : m_Model_procedureOf n i j a b (nI x) = some (match pFind ps w with | none => -1 | some s => nI s) := by
  have h := r_procedureOf_b (n := n) (j := j) hn hw hP ps.length 0 n (by omega) (by have := hP.2.1; omega)
  rw [List.drop_zero] at h
  unfold m_Model_procedureOf
  rw [show (0 : Int32) = nI 0 from rfl, h]
  cases pFind ps w with
  | none => rfl
  | some s => show some (nI (0 + s)) = _; rw [Nat.zero_add]

