/-! the names of the reference -/
theorem r_holds_b {n : Nat} {i : Nat → Int32} {j : Nat → Int64} {a : Nat → Nat → Int32} {B : RB4} {ms : List Tr} {t : Tr} {x y : Int64} (hn : 2000 ≤ n) (hB : B.1 ≤ 120000 ∧ B.2.1 ≤ 300000 ∧ B.2.2.1 ≤ 90000 ∧ B.2.2.2 ≤ 90000) : ∀ (m k f : Nat) (b : Nat → Nat → Int64), rV a b B (tL ms) none x → rV a b B t none y → ms.length = k + m → m < f → ∃ b', m_Model_holds_b3 n f i j a b x y (nI k) = some (i, j, a, b', b1 (dec (t ∈ ms.drop k))) ∧ oB b b' := by
  intro m
  induction m with
  | zero =>
    intro k f b h h' e hf
    obtain ⟨f, rfl⟩ : ∃ f', f = f' + 1 := ⟨f - 1, by omega⟩
    have hc : ms.length ≤ 90000 := by
      obtain ⟨l, p, _, h3, _⟩ := rV_tL.mp h
      have := h3.2.2.2.2.2.2.1
      have := h3.2.2.1
      omega
    refine ⟨b, ?_, fun _ _ _ => rfl⟩
    rw [m_Model_holds_b3, r_size h, ob0_s, ile_p (by omega), dec_f (by rw [List.drop_of_length_le (by omega)]; exact List.not_mem_nil)]
    rfl
  | succ m ih =>
    intro k f b h h' e hf
    obtain ⟨f, rfl⟩ : ∃ f', f = f' + 1 := ⟨f - 1, by omega⟩
    have hc : ms.length ≤ 90000 := by
      obtain ⟨l, p, _, h3, _⟩ := rV_tL.mp h
      have := h3.2.2.2.2.2.2.1
      have := h3.2.2.1
      omega
    have hk : k < ms.length := by omega
    obtain ⟨z, p1, p2⟩ := r_member (n := n) (i := i) (j := j) h hk
    obtain ⟨b', q1, q2⟩ := r_equal (n := n) (i := i) (j := j) hn hB p2 h'
    have ed : ms.drop k = ms[k] :: ms.drop (k + 1) := List.drop_eq_getElem_cons hk
    rw [m_Model_holds_b3, r_size h, ob0_s, ile_n (by omega), p1, ob0_s, q1, om_s, ed]
    rcases Classical.em (ms[k] = t) with c | c
    · refine ⟨b', ?_, q2⟩
      rw [dec_t c, b1_t, if_neg (show ¬ nI 1 = (0 : Int32) by decide), dec_t (by rw [c]; exact List.mem_cons_self)]
      rfl
    · obtain ⟨b2, z1, z2⟩ := ih (k + 1) f b' (rV_b (q2 10 (by decide) (by decide)) hB h) (rV_b (q2 10 (by decide) (by decide)) hB h') (by omega) (by omega)
      refine ⟨b2, ?_, oB_trans q2 z2⟩
      rw [dec_f c, b1_f, if_pos (show nI 0 = (0 : Int32) from rfl), ob1_s, show (1 : Int32) = nI 1 from rfl, nI_add, z1, dec_iff (p := t ∈ ms.drop (k + 1)) (q := t ∈ ms[k] :: ms.drop (k + 1)) ⟨fun h => List.mem_cons_of_mem _ h, fun h => (List.mem_cons.mp h).elim (fun e => absurd e.symm c) id⟩]
theorem r_holds {n : Nat} {i : Nat → Int32} {j : Nat → Int64} {a : Nat → Nat → Int32} {b : Nat → Nat → Int64} {B : RB4} {ms : List Tr} {t : Tr} {x y : Int64} (hn : 100000 ≤ n) (hB : B.1 ≤ 120000 ∧ B.2.1 ≤ 300000 ∧ B.2.2.1 ≤ 90000 ∧ B.2.2.2 ≤ 90000) (h : rV a b B (tL ms) none x) (h' : rV a b B t none y) : ∃ b', m_Model_holds n i j a b x y = some (i, j, a, b', b1 (dec (t ∈ ms))) ∧ oB b b' := by
  have hc : ms.length ≤ 90000 := by
    obtain ⟨l, p, _, h3, _⟩ := rV_tL.mp h
    have := h3.2.2.2.2.2.2.1
    have := h3.2.2.1
    omega
  obtain ⟨b', z1, z2⟩ := r_holds_b (n := n) (i := i) (j := j) (by omega) hB ms.length 0 n b h h' (by omega) (by omega)
  exact ⟨b', z1, z2⟩
theorem r_sameL {n : Nat} {i : Nat → Int32} {j : Nat → Int64} {a : Nat → Nat → Int32} {b : Nat → Nat → Int64} {p q : Nat} {l r : List Nat} (hn : 100 ≤ n) (h30 : l.length ≤ 30) (hr : r.length ≤ 40000) (hp : p + l.length ≤ 300000) (hq : q + r.length ≤ 300000) (hlok : okLs l) (hrok : okLs r) (h1 : ∀ k (h : k < l.length), a 1 (p + k) = nI (l[k]'h)) (h2 : ∀ k (h : k < r.length), a 1 (q + k) = nI (r[k]'h)) : m_Model_sameLetters n i j a b (nI p) (nI l.length) (nI q) (nI r.length) = some (b1 (decide (l = r))) := by
  unfold m_Model_sameLetters
  rcases Classical.em (l.length = r.length) with c | c
  · rw [ieq_p c, show (0 : Int32) = nI 0 from rfl, r_same_b (by omega) (by omega) c hlok hrok h1 h2 l.length 0 n (by omega) (by omega) (fun x hx => absurd hx (Nat.not_lt_zero x))]
  · rw [ieq_n ⟨c, by omega, by omega⟩, decide_eq_false (fun e => c (by rw [e]))]
    rfl
/-- letters somewhere -/
def rT (a : Nat → Nat → Int32) (q : Nat) (r : List Nat) : Prop := r.length ≤ 40000 ∧ q + r.length ≤ 300000 ∧ okLs r ∧ ∀ k (h : k < r.length), a 1 (q + k) = nI (r[k]'h)
def rO (a : Nat → Nat → Int32) (b : Nat → Nat → Int64) (B : RB4) : Option Tr → Int64 → Prop
  | none, v => v = 3
  | some t, v => rV a b B t none v
theorem rO_up {a a' : Nat → Nat → Int32} {b b' : Nat → Nat → Int64} {B B' : RB4} (hu : rUp a b B a' b' B') {o : Option Tr} {v : Int64} (h : rO a b B o v) : rO a' b' B' o v := by
  cases o with
  | none => exact h
  | some t => exact (rV_up hu t).1 v h
def rLs (a : Nat → Nat → Int32) (b : Nat → Nat → Int64) (B : RB4) (c : Nat) (ls : List Loc) : Prop := ∀ m (h : m < ls.length), (∃ x, a 114 (c + m) = nI x ∧ rW a B x (ls[m]'h).1) ∧ rO a b B (ls[m]'h).2 (b 115 (c + m))
theorem rLs_tail {a : Nat → Nat → Int32} {b : Nat → Nat → Int64} {B : RB4} {c : Nat} {l : Loc} {ls : List Loc} (h : rLs a b B c (l :: ls)) : rLs a b B (c + 1) ls := fun m hm => by
  have := h (m + 1) (by simp; omega)
  rw [show c + 1 + m = c + (m + 1) by omega]
  exact this
theorem r_found_l {n : Nat} {i : Nat → Int32} {j : Nat → Int64} {a : Nat → Nat → Int32} {b : Nat → Nat → Int64} {B : RB4} {rc : Int32 → Int32 → Int32 → Option Int32} {w : List Nat} {q d cnt : Nat} (hn : 100 ≤ n) (hw : rT a q w) (hd : d < 150) (hc : a 113 d = nI cnt ∧ cnt ≤ 12) : ∀ (ls : List Loc) (k f : Nat), rLs a b B (12 * d + k) ls → k + ls.length = cnt → ls.length < f →
    (lGet ls w = none ∧ m_Model_found_b17 n i j a b rc f (nI q) (nI w.length) (nI d) (nI (12 * d + k)) = rc (nI q) (nI w.length) (nI d + -1)) ∨
    (∃ (s : Nat) (h : s < ls.length), lGet ls w = some (ls[s]'h).2 ∧ (ls[s]'h).1 = w ∧ (∀ t, lSet ls w t = ls.set s (w, some t)) ∧ m_Model_found_b17 n i j a b rc f (nI q) (nI w.length) (nI d) (nI (12 * d + k)) = some (nI (12 * d + k + s))) := by
  have e12 : (12 : Int32) * nI d = nI (12 * d) := by rw [show (12 : Int32) = nI 12 from rfl, pk_mul]
  intro ls
  induction ls with
  | nil =>
    intro k f h e hf
    obtain ⟨f, rfl⟩ : ∃ f', f = f' + 1 := ⟨f - 1, by simp at hf; omega⟩
    refine Or.inl ⟨rfl, ?_⟩
    rw [List.length_nil] at e
    rw [m_Model_found_b17, ck_n (by omega), cl_n (by omega), hc.1, e12, nI_add, ile_p (by omega), ob1_s]
  | cons l ls ih =>
    intro k f h e hf
    rw [List.length_cons] at e hf
    obtain ⟨f, rfl⟩ : ∃ f', f = f' + 1 := ⟨f - 1, by omega⟩
    obtain ⟨⟨x, g1, g2⟩, g3⟩ := h 0 (by simp)
    rw [Nat.add_zero] at g1
    have g2 : rW a B x l.1 := g2
    obtain ⟨h1, h2, h3, h4, h5, h6, h7, p, h8, h9, h10⟩ := g2
    have step : m_Model_found_b17 n i j a b rc (f + 1) (nI q) (nI w.length) (nI d) (nI (12 * d + k)) = (if b1 (decide (l.1 = w)) = 0 then m_Model_found_b17 n i j a b rc f (nI q) (nI w.length) (nI d) (nI (12 * d + (k + 1))) else some (nI (12 * d + k))) := by
      rw [m_Model_found_b17, ck_n (by omega), cl_n (by omega), hc.1, e12, nI_add, ile_n (by omega), ck_n (by omega), cl_n (by omega), g1, ck_n (by omega), ck_n (by omega), ck_n (by omega), cl_n (by omega), h7, h8, r_sameL hn h5 hw.1 (by omega) hw.2.1 h6 hw.2.2.1 h10 hw.2.2.2, ob0_s, ob1_s, show (1 : Int32) = nI 1 from rfl, nI_add, Nat.add_assoc (12 * d) k 1]
    rcases Classical.em (l.1 = w) with c | c
    · refine Or.inr ⟨0, by simp, ?_, c, fun t => ?_, ?_⟩
      · show (if l.1 = w then some l.2 else lGet ls w) = some l.2
        rw [if_pos c]
      · show (if l.1 = w then (w, some t) :: ls else l :: lSet ls w t) = (w, some t) :: ls
        rw [if_pos c]
      · rw [step, decide_eq_true c, b1_t, if_neg (show ¬ nI 1 = (0 : Int32) by decide)]
        rfl
    · have hg : lGet (l :: ls) w = lGet ls w := by
        show (if l.1 = w then some l.2 else lGet ls w) = _
        rw [if_neg c]
      rw [step, decide_eq_false c, b1_f, if_pos (show nI 0 = (0 : Int32) from rfl), hg]
      rcases ih (k + 1) f (by have := rLs_tail h; rw [Nat.add_assoc] at this; exact this) (by omega) (by omega) with ⟨y1, y2⟩ | ⟨s, hs, y1, y2, y3, y4⟩
      · exact Or.inl ⟨y1, y2⟩
      · refine Or.inr ⟨s + 1, by simp; omega, y1, y2, fun t => ?_, ?_⟩
        · show (if l.1 = w then (w, some t) :: ls else l :: lSet ls w t) = l :: ls.set s (w, some t)
          rw [if_neg c, y3]
        · rw [y4]
          congr 2
          omega
def rFr (a : Nat → Nat → Int32) (b : Nat → Nat → Int64) (B : RB4) : List Fr → Prop
  | [] => True
  | f :: F => (a 113 F.length = nI f.2.length ∧ f.2.length ≤ 12 ∧ F.length < 150) ∧ rLs a b B (12 * F.length) f.2 ∧ rFr a b B F
/-- the names outside -/
def rGl (i : Nat → Int32) (a : Nat → Nat → Int32) (b : Nat → Nat → Int64) (B : RB4) (Gl : List (Nm × Tr)) : Prop := i 36 = nI Gl.length ∧ Gl.length ≤ 64 ∧ ∀ m (h : m < Gl.length), (∃ x, a 34 m = nI x ∧ rW a B x (Gl[m]'h).1) ∧ rV a b B (Gl[m]'h).2 none (b 35 m)
theorem r_found_g {n : Nat} {i : Nat → Int32} {j : Nat → Int64} {a : Nat → Nat → Int32} {b : Nat → Nat → Int64} {B : RB4} {Gl : List (Nm × Tr)} {w : List Nat} {q : Nat} (hn : 100 ≤ n) (hw : rT a q w) (hG : rGl i a b B Gl) : ∀ (m k f : Nat), k + m = Gl.length → m < f →
    (gGet (Gl.drop k) w = none ∧ m_Model_found_b83 n i j a b f (nI q) (nI w.length) (nI k) = some (-1)) ∨
    (∃ (s : Nat) (h : k + s < Gl.length), gGet (Gl.drop k) w = some (Gl[k + s]'h).2 ∧ (Gl[k + s]'h).1 = w ∧ (∀ t, gSet (Gl.drop k) w t = (Gl.drop k).set s (w, t)) ∧ m_Model_found_b83 n i j a b f (nI q) (nI w.length) (nI k) = some (nI (10000 + (k + s)))) := by
  obtain ⟨hG1, hG2, hG3⟩ := hG
  intro m
  induction m with
  | zero =>
    intro k f e hf
    obtain ⟨f, rfl⟩ : ∃ f', f = f' + 1 := ⟨f - 1, by omega⟩
    refine Or.inl ⟨?_, ?_⟩
    · rw [List.drop_of_length_le (by omega)]; rfl
    · rw [m_Model_found_b83, hG1, ile_p (by omega)]
  | succ m ih =>
    intro k f e hf
    obtain ⟨f, rfl⟩ : ∃ f', f = f' + 1 := ⟨f - 1, by omega⟩
    have hk : k < Gl.length := by omega
    obtain ⟨⟨x, g1, g2⟩, g3⟩ := hG3 k hk
    obtain ⟨h1, h2, h3, h4, h5, h6, h7, p, h8, h9, h10⟩ := g2
    have ed : Gl.drop k = Gl[k] :: Gl.drop (k + 1) := List.drop_eq_getElem_cons hk
    have step : m_Model_found_b83 n i j a b (f + 1) (nI q) (nI w.length) (nI k) = (if b1 (decide (Gl[k].1 = w)) = 0 then m_Model_found_b83 n i j a b f (nI q) (nI w.length) (nI (k + 1)) else some (nI (10000 + k))) := by
      rw [m_Model_found_b83, hG1, ile_n (by omega), ck_n (by omega), cl_n (by omega), g1, ck_n (by omega), ck_n (by omega), ck_n (by omega), cl_n (by omega), h7, h8, r_sameL hn h5 hw.1 (by omega) hw.2.1 h6 hw.2.2.1 h10 hw.2.2.2, ob0_s, ob1_s, show (1 : Int32) = nI 1 from rfl, nI_add, show (10000 : Int32) + nI k = nI (10000 + k) from nI_add 10000 k]
    rcases Classical.em (Gl[k].1 = w) with c | c
    · refine Or.inr ⟨0, hk, ?_, c, fun t => ?_, ?_⟩
      · rw [ed]
        show (if Gl[k].1 = w then some Gl[k].2 else gGet _ w) = some Gl[k].2
        rw [if_pos c]
      · rw [ed]
        show (if Gl[k].1 = w then (w, t) :: Gl.drop (k + 1) else _) = (w, t) :: Gl.drop (k + 1)
        rw [if_pos c]
      · rw [step, decide_eq_true c, b1_t, if_neg (show ¬ nI 1 = (0 : Int32) by decide)]
        rfl
    · have hg : gGet (Gl.drop k) w = gGet (Gl.drop (k + 1)) w := by
        rw [ed]
        show (if Gl[k].1 = w then some Gl[k].2 else gGet (Gl.drop (k + 1)) w) = _
        rw [if_neg c]
      rw [step, decide_eq_false c, b1_f, if_pos (show nI 0 = (0 : Int32) from rfl), hg]
      rcases ih (k + 1) f (by omega) (by omega) with ⟨y1, y2⟩ | ⟨s, hs, y1, y2, y3, y4⟩
      · exact Or.inl ⟨y1, y2⟩
      · have e9 : k + 1 + s = k + (s + 1) := by omega
        simp only [e9] at y1 y2 y4 hs
        refine Or.inr ⟨s + 1, hs, y1, y2, fun t => ?_, y4⟩
        rw [ed]
        show (if Gl[k].1 = w then (w, t) :: Gl.drop (k + 1) else Gl[k] :: gSet (Gl.drop (k + 1)) w t) = Gl[k] :: (Gl.drop (k + 1)).set s (w, t)
        rw [if_neg c, y3]

