/-! names, procedures, values and calls that the reference shows -/
theorem nI_nlt0 {z : Nat} (hz : z < 2147483648) : ¬ nI z < (0 : Int32) := by
  rw [Int32.lt_iff_toInt_lt, nI_toInt (by omega), show ((0 : Int32).toInt) = 0 from rfl]
  omega
theorem R_name {n : Nat} {i : Nat → Int32} {j : Nat → Int64} {a : Nat → Nat → Int32} {b : Nat → Nat → Int64} {cc : Nat} {c : Cfg} {G0 : GS} {tl : Tr} {bk : Bool} {tp : Nat → Nat} {N fk fp : Nat} {x y : Int32} (h : WR i j a b cc (c, G0, tl, bk, tp, N, fk, fp)) : m_Model_name n i j a b x y = some (upd i 0 0, j, a, b, aNameW c.1 x y) := by
  obtain ⟨⟨B, ⟨⟨w1, w2, w8, ⟨w9, w10⟩, ⟨w11, w11', w11''⟩, w12, w14⟩, hR, ⟨w5, w6, w7⟩, ⟨y1, y2, y3, y4, y5, y6⟩, y7, y8⟩, hO, h1'', h1x⟩, h2, ⟨t1, t2, t3, t4⟩, ⟨f1, f2, f3⟩, h5⟩ := h
  obtain ⟨g1, g2, g3⟩ := w8
  unfold m_Model_name aNameW
  rw [ob1_s, upd_ne (by decide), g1]
  rcases i32_cases x with hx | ⟨hx, z, hz, rfl⟩
  · rw [if_pos hx, if_pos hx]
  rw [if_neg hx, if_neg hx, cl_n hz]
  rcases Nat.lt_or_ge z (gGlob c.1).length with q | q
  rotate_left
  · rw [ile_p (by omega), List.getElem?_eq_none q]
  obtain ⟨⟨m, e1, e2⟩, _⟩ := g3 z q
  obtain ⟨u1, u2, u3, u4, u5, u6, u7, p, u8, u9, u10⟩ := e2
  rw [ile_n (by omega), List.getElem?_eq_getElem q]
  dsimp only
  unfold aLetter
  rcases i32_cases y with hy | ⟨hy, r, hr, rfl⟩
  · rw [if_pos hy, if_pos hy]
  rw [if_neg hy, if_neg hy, cl_n hr, ck_n (by omega), ck_n (by omega), e1, ck_n (by omega), ck_n (by omega), cl_n (by omega), u7, u8]
  rcases Nat.lt_or_ge r (gGlob c.1)[z].1.length with s | s
  · rw [ilt_p (by omega), nI_add, ck_n (by omega), cl_n (by omega), u10 r s, List.getElem?_eq_getElem s]
  · rw [ilt_n (by omega), List.getElem?_eq_none s]
theorem R_procedure {n : Nat} {i : Nat → Int32} {j : Nat → Int64} {a : Nat → Nat → Int32} {b : Nat → Nat → Int64} {cc : Nat} {c : Cfg} {G0 : GS} {tl : Tr} {bk : Bool} {tp : Nat → Nat} {N fk fp : Nat} {x y : Int32} (h : WR i j a b cc (c, G0, tl, bk, tp, N, fk, fp)) : m_Model_procedure n i j a b x y = some (upd i 0 0, j, a, b, aProcW c.1 x y) := by
  obtain ⟨⟨B, ⟨⟨w1, w2, w8, ⟨w9, w10⟩, ⟨w11, w11', w11''⟩, w12, w14⟩, hR, ⟨w5, w6, w7⟩, ⟨y1, y2, y3, y4, y5, y6⟩, y7, y8⟩, hO, h1'', h1x⟩, h2, ⟨t1, t2, t3, t4⟩, ⟨f1, f2, f3⟩, h5⟩ := h
  obtain ⟨g1, g2, g3⟩ := w9
  unfold m_Model_procedure aProcW
  rw [ob1_s, upd_ne (by decide), g1]
  rcases i32_cases x with hx | ⟨hx, z, hz, rfl⟩
  · rw [if_pos hx, if_pos hx]
  rw [if_neg hx, if_neg hx, cl_n hz]
  rcases Nat.lt_or_ge z (gProcs c.1).length with q | q
  rotate_left
  · rw [ile_p (by omega), List.getElem?_eq_none q]
  obtain ⟨⟨m, e1, e2⟩, e3, e4, e5, e6⟩ := g3 z q
  obtain ⟨u1, u2, u3, u4, u5, u6, u7, p, u8, u9, u10⟩ := e2
  rw [ile_n (by omega), List.getElem?_eq_getElem q]
  dsimp only
  have hisl : isL (gProcs c.1)[z].2.2 = true := (h2.1.1.2.2.1 _ (List.getElem_mem q)).2.2
  have hsz : m_Model_size n (upd i 0 0) j a b (b 32 z) = some (nI (tMem (gProcs c.1)[z].2.2).length) := by
    have e7 := e6
    rw [r_isL_eq e6 hisl] at e7
    exact r_size e7
  rcases i32_cases y with hy | ⟨hy, r, hr, rfl⟩
  · rw [if_pos hy, if_neg (fun e => by rw [Int32.le_iff_toInt_le] at e; rw [Int32.lt_iff_toInt_lt] at hy; omega)]
  rw [if_neg hy, if_pos (show (0 : Int32) ≤ nI r from nI_le (a := 0) (Nat.zero_le _) (by omega)), ck_n (by omega), ck_n (by omega), ck_n (by omega), ob1_s, e1, e3, hsz, ob0_s, ck_n (by omega), ck_n (by omega), cl_n (by omega), u7, u8]
  rcases (by omega : r = 0 ∨ r = 1 ∨ 2 ≤ r) with rfl | rfl | hr2
  · rw [if_pos (show nI 0 = (0 : Int32) from rfl), if_pos (show nI 0 = (0 : Int32) from rfl)]
  · rw [if_neg (show ¬ nI 1 = (0 : Int32) from by decide), if_pos (show nI 1 = (1 : Int32) from rfl), if_neg (show ¬ nI 1 = (0 : Int32) from by decide), if_pos (show nI 1 = (1 : Int32) from rfl)]
  · have q0 : ¬ nI r = (0 : Int32) := fun e => by have := (nI_eq (b := 0) hr (by decide)).mp e; omega
    have q1 : ¬ nI r = (1 : Int32) := fun e => by have := (nI_eq (b := 1) hr (by decide)).mp e; omega
    rw [if_neg q0, if_neg q1, if_neg q0, if_neg q1, show (2 : Int32) = nI 2 from rfl, sub_n hr2, nI_add, sub_n (by omega)]
    unfold aLetter
    rw [if_neg (show ¬ nI (r - 2) < (0 : Int32) from nI_nlt0 (by omega)), cl_n (k := r - 2) (by omega)]
    rcases Nat.lt_or_ge (r - 2) (gProcs c.1)[z].1.length with s | s
    · rw [ilt_p (by omega), ck_n (by omega), cl_n (by omega), show p + r - 2 = p + (r - 2) by omega, u10 _ s, List.getElem?_eq_getElem s]
    · rw [ilt_n (by omega), List.getElem?_eq_none s]
theorem R_value {n : Nat} (hn : 20000 ≤ n) {i : Nat → Int32} {j : Nat → Int64} {a : Nat → Nat → Int32} {b : Nat → Nat → Int64} {cc : Nat} {c : Cfg} {G0 : GS} {tl : Tr} {bk : Bool} {tp : Nat → Nat} {N fk fp : Nat} {x y : Int32} (h : WR i j a b cc (c, G0, tl, bk, tp, N, fk, fp)) : ∃ i' a', m_Model_value n i j a b x y = some (i', j, a', b, aValW c.1 x y) ∧ WR i' j a' b (cc + 1) (c, G0, tl, bk, tp, N, fk, fp) := by
  have h0 := h
  obtain ⟨⟨B, ⟨⟨w1, w2, w8, ⟨w9, w10⟩, ⟨w11, w11', w11''⟩, w12, w14⟩, hR, ⟨w5, w6, w7⟩, ⟨y1, y2, y3, y4, y5, y6⟩, y7, y8⟩, hO, h1'', h1x⟩, h2, ⟨t1, t2, t3, t4⟩, ⟨f1, f2, f3⟩, h5⟩ := h
  obtain ⟨g1, g2, g3⟩ := w8
  unfold m_Model_value aValW
  rw [ob1_s, upd_ne (by decide), g1]
  rcases i32_cases x with hx | ⟨hx, z, hz, rfl⟩
  · rw [if_pos hx, if_pos hx]
    exact ⟨_, a, rfl, WR_0 h0 (by omega)⟩
  rw [if_neg hx, if_neg hx, cl_n hz]
  rcases Nat.lt_or_ge z (gGlob c.1).length with q | q
  rotate_left
  · rw [ilt_n (by omega), List.getElem?_eq_none q]
    exact ⟨_, a, rfl, WR_0 h0 (by omega)⟩
  rw [ilt_p (by omega), ck_n (by omega), List.getElem?_eq_getElem q]
  dsimp only
  have hB : B.1 ≤ 120000 ∧ B.2.1 ≤ 300000 ∧ B.2.2.1 ≤ 90000 ∧ B.2.2.2 ≤ 90000 := w1.2.2.2.2
  obtain ⟨i1, a1, e1, ⟨e2, e3⟩, e4, e5⟩ := r_show (n := n) (i := upd i 0 0) (j := j) (bare := false) hn hB (g3 z q).2
  obtain ⟨s1, s2⟩ := aShow_low (g3 z q).2 false
  rw [show aShow (gGlob c.1)[z].2 false = aSh (gGlob c.1)[z].2 0 by unfold aShow; rw [Bool.and_false]; rfl] at e2 e3 s1 s2
  have e1' : m_Model_show n (upd i 0 0) j a b (b 35 z) (0 : Int32) = some (i1, j, a1, b, 0) := e1
  rw [e1', om_s]
  have hwr : WR i1 j a1 b (cc + 1) (c, G0, tl, bk, tp, N, fk, fp) := WR_i (WR_0 h0 (Nat.le_refl _)) (by omega) (fun q q1 q2 q3 => e4 q q2) (fun q q1 q2 q3 => e5 q q1 q2 q3)
  refine ⟨i1, a1, ?_, hwr⟩
  unfold aLetter
  rcases i32_cases y with hy | ⟨hy, r, hr, rfl⟩
  · rw [if_pos hy, if_pos hy]
  rw [if_neg hy, if_neg hy, cl_n hr, e2]
  rcases Nat.lt_or_ge r (aSh (gGlob c.1)[z].2 0).length with s | s
  · rw [ilt_p (by omega), ck_n (by omega), List.getElem?_eq_getElem s, e3 r s]
  · rw [ilt_n (by omega), List.getElem?_eq_none s]
theorem r_call37 {n : Nat} {i : Nat → Int32} {j : Nat → Int64} {a : Nat → Nat → Int32} {b : Nat → Nat → Int64} {B : RB4} {cp d : Nat} {x : Int32} (hd : d < 150) (hc : a 112 d = nI cp) : ∀ (ls : List Loc) (k cnt f v : Nat), a 113 d = nI cnt → cnt ≤ 12 → rLs a b B (12 * d + k) ls → k + ls.length = cnt → ls.length < f → v ≤ k → m_Model_call_b37 n f i j a b x (nI d) (nI v) (nI (12 * d + k)) = some (i, j, a, b, if x = 0 then nI cp else if x = 1 then nI cnt else if x = 2 then nI (v + vCnt ls) else -1) := by
  intro ls
  induction ls with
  | nil =>
    intro k cnt f v h1 h2 h3 h4 hf hv
    obtain ⟨f, rfl⟩ : ∃ f', f = f' + 1 := ⟨f - 1, by omega⟩
    have hk : k = cnt := by simpa using h4
    rw [m_Model_call_b37, ck_n (by omega), cl_n (by omega), h1, hc, show (12 : Int32) * nI d = nI (12 * d) from pk_mul 12 d, nI_add, ile_p (by omega), ck_n (by omega), ck_n (by omega)]
    exact sJ rfl (sJ rfl (sJ rfl rfl))
  | cons l ls ih =>
    intro k cnt f v h1 h2 h3 h4 hf hv
    obtain ⟨f, rfl⟩ : ∃ f', f = f' + 1 := ⟨f - 1, by omega⟩
    simp only [List.length_cons] at h4 hf
    rw [m_Model_call_b37, ck_n (by omega), cl_n (by omega), h1, show (12 : Int32) * nI d = nI (12 * d) from pk_mul 12 d, nI_add, ile_n (by omega), ck_n (by omega), cl_n (by omega)]
    have ho := (h3 0 (by simp)).2
    rw [Nat.add_zero] at ho
    have hl := rLs_tail h3
    have ho : rO a b B l.2 (b 115 (12 * d + k)) := ho
    unfold m_Model_call_b74
    cases hl2 : l.2 with
    | none =>
      rw [hl2] at ho
      rw [if_pos (rO_none ho), ob1_s, ob1_s, show nI v + (0 : Int32) = nI (v + 0) from nI_add v 0, show nI (12 * d + k) + (1 : Int32) = nI (12 * d + (k + 1)) from nI_add (12 * d + k) 1, ih (k + 1) cnt f (v + 0) h1 h2 hl (by omega) (by omega) (by omega), vCnt, hl2, show (if (none : Option Tr).isSome then 1 else 0) + vCnt ls = vCnt ls from Nat.zero_add _]
      rfl
    | some t =>
      rw [hl2] at ho
      rw [if_neg (rO_some ho), ob1_s, ob1_s, show nI v + (1 : Int32) = nI (v + 1) from nI_add v 1, show nI (12 * d + k) + (1 : Int32) = nI (12 * d + (k + 1)) from nI_add (12 * d + k) 1, ih (k + 1) cnt f (v + 1) h1 h2 hl (by omega) (by omega) (by omega), vCnt, hl2, show (if (some t).isSome then 1 else 0) + vCnt ls = 1 + vCnt ls from rfl, show v + 1 + vCnt ls = v + (1 + vCnt ls) by omega]
theorem rFr_at {i : Nat → Int32} {j : Nat → Int64} {a : Nat → Nat → Int32} {b : Nat → Nat → Int64} {B : RB4} : ∀ (F : List Fr), rFr a b B F → rCp a F → ∀ k (h : k < F.length), (a 112 (F.length - 1 - k) = nI (F[k]'h).1) ∧ (a 113 (F.length - 1 - k) = nI (F[k]'h).2.length ∧ (F[k]'h).2.length ≤ 12 ∧ F.length - 1 - k < 150) ∧ rLs a b B (12 * (F.length - 1 - k)) (F[k]'h).2 := by
  intro F
  induction F with
  | nil => intro _ _ k h; exact absurd h (Nat.not_lt_zero _)
  | cons f F ih =>
    intro h1 h2 k hk
    cases k with
    | zero =>
      rw [List.length_cons, show F.length + 1 - 1 - 0 = F.length by omega]
      exact ⟨h2.1, h1.1, h1.2.1⟩
    | succ k =>
      rw [List.length_cons, show F.length + 1 - 1 - (k + 1) = F.length - 1 - k by omega]
      exact ih h1.2.2 h2.2 k (by simp only [List.length_cons] at hk; omega)
theorem R_call {n : Nat} (hn : 20 ≤ n) {i : Nat → Int32} {j : Nat → Int64} {a : Nat → Nat → Int32} {b : Nat → Nat → Int64} {cc : Nat} {c : Cfg} {G0 : GS} {tl : Tr} {bk : Bool} {tp : Nat → Nat} {N fk fp : Nat} {x y : Int32} (h : WR i j a b cc (c, G0, tl, bk, tp, N, fk, fp)) : m_Model_call n i j a b x y = some (upd i 0 0, j, a, b, aCallW c.2.2.1 x y) := by
  obtain ⟨⟨B, ⟨⟨w1, w2, w8, ⟨w9, w10⟩, ⟨w11, w11', w11''⟩, w12, w14⟩, hR, ⟨w5, w6, w7⟩, ⟨y1, y2, y3, y4, y5, y6⟩, y7, y8⟩, hO, h1'', h1x⟩, h2, ⟨t1, t2, t3, t4⟩, ⟨f1, f2, f3⟩, h5⟩ := h
  unfold m_Model_call aCallW
  rw [ob1_s, upd_ne (by decide), w7]
  have hF : c.2.2.1.length = lvCalls c.2.2.2.1 := h2.1.2.2.1.2.2.2.2.1
  have hF2 := lvCalls_le c.2.2.2.1
  have hF3 : c.2.2.2.1.length ≤ 150 := h2.1.2.2.1.2.1
  rcases i32_cases x with hx | ⟨hx, z, hz, rfl⟩
  · rw [if_pos hx, if_pos hx]
  rw [if_neg hx, if_neg hx, cl_n hz]
  rcases Nat.lt_or_ge z c.2.2.1.length with q | q
  rotate_left
  · rw [ilt_n (by omega), List.getElem?_eq_none q]
  obtain ⟨e1, ⟨e2, e3, e4⟩, e5⟩ := rFr_at (i := i) (j := j) _ w5 w6 z q
  rw [ilt_p (by omega), ob1_s, ob1_s, List.getElem?_eq_getElem q, show (1 : Int32) = nI 1 from rfl, sub_n (by omega), sub_n (by omega), show (12 : Int32) * nI (c.2.2.1.length - 1 - z) = nI (12 * (c.2.2.1.length - 1 - z)) from pk_mul 12 _]
  have key := r_call37 (n := n) (i := upd i 0 0) (j := j) (x := y) e4 e1 c.2.2.1[z].2 0 _ n 0 e2 e3 e5 (by omega) (by omega) (Nat.le_refl _)
  rw [Nat.zero_add] at key
  exact key
/-- places and sides -/
theorem i32_01 {x : Int32} (h1 : ¬ x < 0) (h2 : x ≤ 1) : x = nI 0 ∨ x = nI 1 := by
  rcases i32_cases x with h | ⟨_, z, hz, rfl⟩
  · exact absurd h h1
  · have : z ≤ 1 := by
      rw [Int32.le_iff_toInt_le, nI_toInt (by omega), show ((1 : Int32).toInt) = 1 from rfl] at h2
      omega
    rcases (by omega : z = 0 ∨ z = 1) with rfl | rfl
    · exact Or.inl rfl
    · exact Or.inr rfl
theorem ts_ex {x : Int32} (h : ¬ ts_exists x = 0) : ∃ t, t < 8 ∧ x = nI t := by
  unfold ts_exists at h
  rcases i32_cases x with q | ⟨q, z, hz, rfl⟩
  · rw [if_pos q] at h; exact absurd rfl h
  · rw [if_neg q] at h
    rcases Nat.lt_or_ge z 8 with s | s
    · exact ⟨z, s, rfl⟩
    · rw [show (8 : Int32) = nI 8 from rfl, ile_p (by omega)] at h
      exact absurd rfl h
theorem isT_ex {n : Nat} {i : Nat → Int32} {j : Nat → Int64} {a : Nat → Nat → Int32} {b : Nat → Nat → Int64} {x : Int32} : m_Model_isTurtle n i j a b x = some (ts_exists x) := by
  unfold m_Model_isTurtle ts_exists
  split
  · rfl
  · split <;> rfl
theorem WR_i0 {i : Nat → Int32} {j : Nat → Int64} {a : Nat → Nat → Int32} {b : Nat → Nat → Int64} {cc : Nat} {w : AW} {v : Int32} (h : WR i j a b cc w) : WR (upd i 0 v) j a b (cc + 1) w := WR_i h (by omega) (fun q h1 _ _ => upd_ne h1) (fun _ _ _ _ => rfl)
theorem R_place0 {n : Nat} {i : Nat → Int32} {j : Nat → Int64} {a : Nat → Nat → Int32} {b : Nat → Nat → Int64} {x y z : Int32} (hx : ts_exists x = 0 ∨ y < 0 ∨ 1 < y ∨ z < 0 ∨ ¬ z ≤ 1) : m_Model_place n i j a b x y z = some (upd i 0 1, j, a, b, 0) := by
  have b32 : m_Model_place_b32 n i j a b x y z 1 = some (upd i 0 1, j, a, b, 0) := by
    unfold m_Model_place_b32
    rw [ob1_s, upd_at, if_pos rfl]
  have b31 : m_Model_place_b31 n i j a b x y z = some (upd i 0 1, j, a, b, 0) := b32
  unfold m_Model_place
  rw [isT_ex, ob0_s]
  rcases Classical.em (ts_exists x = 0) with e | e
  · rw [if_pos e]; exact b31
  rw [if_neg e]
  have b18 : (y = 0 ∨ y = 1) → m_Model_place_b18 n i j a b x y z = some (upd i 0 1, j, a, b, 0) := by
    intro hy
    unfold m_Model_place_b18
    have h0 : ¬ z = 0 := by
      intro h9; subst h9
      rcases hx with h | h | h | h | h
      · exact e h
      · rcases hy with rfl | rfl <;> exact absurd h (by decide)
      · rcases hy with rfl | rfl <;> exact absurd h (by decide)
      · exact absurd h (by decide)
      · exact h (by decide)
    have h1 : ¬ z = 1 := by
      intro h9; subst h9
      rcases hx with h | h | h | h | h
      · exact e h
      · rcases hy with rfl | rfl <;> exact absurd h (by decide)
      · rcases hy with rfl | rfl <;> exact absurd h (by decide)
      · exact absurd h (by decide)
      · exact h (by decide)
    rw [if_neg h0, if_neg h1]; exact b31
  rcases Classical.em (y = 0) with c0 | c0
  · rw [if_pos c0]; exact b18 (Or.inl c0)
  rw [if_neg c0]
  rcases Classical.em (y = 1) with c1 | c1
  · rw [if_pos c1]; exact b18 (Or.inr c1)
  rw [if_neg c1]; exact b31
theorem R_place {n : Nat} {i : Nat → Int32} {j : Nat → Int64} {a : Nat → Nat → Int32} {b : Nat → Nat → Int64} {cc : Nat} {c : Cfg} {G0 : GS} {tl : Tr} {bk : Bool} {tp : Nat → Nat} {N fk fp : Nat} {x y z : Int32} (h : WR i j a b cc (c, G0, tl, bk, tp, N, fk, fp)) (hx : ¬ (ts_exists x = 0 ∨ y < 0 ∨ 1 < y ∨ z < 0 ∨ ¬ z ≤ 1)) : m_Model_place n i j a b x y z = some (upd i 0 0, j, a, b, m_World_place_r (gParts c.1) x y z) := by
  obtain ⟨⟨B, ⟨⟨w1, w2, w8, ⟨w9, w10⟩, ⟨w11, w11', w11''⟩, w12, w14⟩, hR, ⟨w5, w6, w7⟩, ⟨y1, y2, y3, y4, y5, y6⟩, y7, y8⟩, hO, h1'', h1x⟩, h2, ⟨t1, t2, t3, t4⟩, ⟨f1, f2, f3⟩, h5⟩ := h
  have x1 : ¬ ts_exists x = 0 := fun e => hx (Or.inl e)
  have x2 : ¬ y < 0 := fun e => hx (Or.inr (Or.inl e))
  have x3 : y ≤ 1 := by
    rcases Classical.em (1 < y) with e | e
    · exact absurd (Or.inr (Or.inr (Or.inl e))) hx
    · rw [Int32.lt_iff_toInt_lt] at e; rw [Int32.le_iff_toInt_le]; omega
  have x4 : ¬ z < 0 := fun e => hx (Or.inr (Or.inr (Or.inr (Or.inl e))))
  have x5 : z ≤ 1 := Classical.byContradiction (fun e => hx (Or.inr (Or.inr (Or.inr (Or.inr e)))))
  obtain ⟨t, ht, rfl⟩ := ts_ex x1
  unfold m_Model_place
  rw [isT_ex, ob0_s, if_neg x1]
  have b27 : ∀ q r, q < 2 → r < 2 → m_Model_place_b27 n i j a b (nI t) (nI q) (nI r) = some (upd i 0 0, j, a, b, m_World_place_r (gParts c.1) (nI t) (nI q) (nI r)) := by
    intro q r hq hr
    unfold m_Model_place_b27 m_Model_place_b32 m_World_place_r
    rw [ob1_s, upd_at, if_neg (by decide), show (2 : Int32) * nI q = nI (2 * q) from pk_mul 2 q, nI_add, r_row (by omega), ob0_s, cd_at (by omega), ck_n (by omega), cl_n (by omega), w11 t (2 * q + r) ht (by omega), ts_at ht (by omega)]
  unfold m_Model_place_b18
  rcases i32_01 x2 x3 with rfl | rfl <;> rcases i32_01 x4 x5 with rfl | rfl
  · rw [if_pos (show nI 0 = (0 : Int32) from rfl), if_pos (show nI 0 = (0 : Int32) from rfl)]; exact b27 0 0 (by decide) (by decide)
  · rw [if_pos (show nI 0 = (0 : Int32) from rfl), if_neg (show ¬ nI 1 = (0 : Int32) from by decide), if_pos (show nI 1 = (1 : Int32) from rfl)]; exact b27 0 1 (by decide) (by decide)
  · rw [if_neg (show ¬ nI 1 = (0 : Int32) from by decide), if_pos (show nI 1 = (1 : Int32) from rfl), if_pos (show nI 0 = (0 : Int32) from rfl)]; exact b27 1 0 (by decide) (by decide)
  · rw [if_neg (show ¬ nI 1 = (0 : Int32) from by decide), if_pos (show nI 1 = (1 : Int32) from rfl), if_neg (show ¬ nI 1 = (0 : Int32) from by decide), if_pos (show nI 1 = (1 : Int32) from rfl)]; exact b27 1 1 (by decide) (by decide)
theorem fR_r {n : Nat} (q : Int64) : m_Turtles_floorRoot n q = some (m_Turtles_floorRoot_r q) := by
  unfold m_Turtles_floorRoot m_Turtles_floorRoot_r
  rcases Classical.em ((0 : Int32) ≤ lg_cmp q 0) with c | c
  · rw [if_pos c, if_pos c]
    unfold m_Turtles_floorRoot_b12
    rw [ob1_s, ob1_s]
    generalize q * 1732050807 / 1000000000 = r
    generalize hx : lg_cmp ((r + 1) * (r + 1)) (3 * q * q) = x
    rcases Classical.em ((0 : Int32) < x) with d | d
    · rw [if_pos d, if_pos d]
      unfold m_Turtles_floorRoot_b54
      rw [if_pos c]
    · rw [if_neg d, if_neg d, ob1_s]
      unfold m_Turtles_floorRoot_b54
      rw [if_pos c]
  · rw [if_neg c, if_neg c]
    unfold m_Turtles_floorRoot_b12
    rw [ob1_s, ob1_s]
    generalize -q * 1732050807 / 1000000000 = r
    generalize hx : lg_cmp ((r + 1) * (r + 1)) (3 * -q * -q) = x
    rcases Classical.em ((0 : Int32) < x) with d | d
    · rw [if_pos d, if_pos d]
      unfold m_Turtles_floorRoot_b54
      rw [if_neg c]
    · rw [if_neg d, if_neg d, ob1_s]
      unfold m_Turtles_floorRoot_b54
      rw [if_neg c]
theorem side_r {p q : Int} {v : Int32} (hp : -1000000 ≤ p ∧ p ≤ 1000000) (hq : -1000000 ≤ q ∧ q ≤ 1000000) : m_Turtles_sideOf_r (Int32.ofInt p) (Int32.ofInt q) v = Int32.ofInt (aSg (p - 2 * v.toInt) q) := by
  have hv1 := Int32.toInt_lt v
  have hv2 := Int32.le_toInt v
  have hr : m_Turtles_floorRoot_r (Int64.ofInt q) = Int64.ofInt (fl3 q) := by
    have h1 := h_root (n := 0) (q := q) (by omega)
    rw [fR_r] at h1
    exact Option.some.inj h1
  have hf := fl3_bd (q := q) (by omega)
  have ev : v.toInt64 = Int64.ofInt v.toInt := by
    have := i32_64 (x := v.toInt) (by omega) (by omega)
    rw [Int32.ofInt_toInt] at this
    exact this
  unfold m_Turtles_sideOf_r m_Long_compare_r aSg
  rw [ev, i32_64 (by omega) (by omega), i32_64 (by omega) (by omega), hr, show (2 : Int64) = Int64.ofInt 2 from rfl, ← Int64.ofInt_mul, ← Int64.ofInt_sub]
  generalize v.toInt = u at *
  rcases Classical.em (q = 0) with e | e
  · rw [if_pos e, if_pos (by rw [e]; rfl), show (0 : Int64) = Int64.ofInt 0 from rfl]
    rcases (by omega : 2 * u - p < 0 ∨ 2 * u - p = 0 ∨ 0 < 2 * u - p) with s | s | s
    · rw [if_pos ((lg_ge (by omega) (by omega)).mpr (by omega)), if_neg (fun h9 => by have := (lg_eq (by omega) (by omega)).mp h9; omega), if_neg (by omega), if_neg (by omega)]
      rfl
    · rw [if_pos ((lg_ge (by omega) (by omega)).mpr (by omega)), if_pos ((lg_eq (by omega) (by omega)).mpr (by omega)), if_neg (by omega), if_pos (by omega)]
      rfl
    · rw [if_neg (fun h9 => by have := (lg_ge (by omega) (by omega)).mp h9; omega), if_pos (by omega)]
      rfl
  · have e' : ¬ Int32.ofInt q = (0 : Int32) := fun h9 => e (by
      have := congrArg Int32.toInt h9
      rw [Int32.toInt_ofInt_of_le (by show -2147483648 ≤ _; omega) (by show _ < 2147483648; omega)] at this
      exact this)
    rw [if_neg e, if_neg e']
    rcases Int.lt_or_le (fl3 q) (2 * u - p) with s | s
    · rw [if_neg (fun h9 => by have := (lg_ge (by omega) (by omega)).mp h9; omega), if_pos (by omega)]
      rfl
    · rw [if_pos ((lg_ge (by omega) (by omega)).mpr s), if_neg (by omega)]
      rfl
theorem R_side0 {n : Nat} {i : Nat → Int32} {j : Nat → Int64} {a : Nat → Nat → Int32} {b : Nat → Nat → Int64} {x y z : Int32} (hx : ts_exists x = 0 ∨ y < 0 ∨ ¬ y ≤ 1) : m_Model_side n i j a b x y z = some (upd i 0 1, j, a, b, 0) := by
  have b22 : m_Model_side_b22 n i j a b x y z = some (upd i 0 1, j, a, b, 0) := by
    unfold m_Model_side_b22 m_Model_side_b23
    rw [ob1_s, upd_at, if_pos rfl]
  unfold m_Model_side
  rw [isT_ex, ob0_s]
  rcases Classical.em (ts_exists x = 0) with e | e
  · rw [if_pos e]; exact b22
  rw [if_neg e]
  rw [if_neg (fun h9 => by subst h9; rcases hx with h | h | h; exact e h; exact absurd h (by decide); exact h (by decide)), if_neg (fun h9 => by subst h9; rcases hx with h | h | h; exact e h; exact absurd h (by decide); exact h (by decide))]
  exact b22
theorem R_side {n : Nat} {i : Nat → Int32} {j : Nat → Int64} {a : Nat → Nat → Int32} {b : Nat → Nat → Int64} {cc : Nat} {c : Cfg} {G0 : GS} {tl : Tr} {bk : Bool} {tp : Nat → Nat} {N fk fp : Nat} {x y z : Int32} (h : WR i j a b cc (c, G0, tl, bk, tp, N, fk, fp)) (hx : ¬ (ts_exists x = 0 ∨ y < 0 ∨ ¬ y ≤ 1)) : m_Model_side n i j a b x y z = some (upd i 0 0, j, a, b, m_World_side_r (gParts c.1) x y z) := by
  obtain ⟨⟨B, ⟨⟨w1, w2, w8, ⟨w9, w10⟩, ⟨w11, w11', w11''⟩, w12, w14⟩, hR, ⟨w5, w6, w7⟩, ⟨y1, y2, y3, y4, y5, y6⟩, y7, y8⟩, hO, h1'', h1x⟩, h2, ⟨t1, t2, t3, t4⟩, ⟨f1, f2, f3⟩, h5⟩ := h
  have x1 : ¬ ts_exists x = 0 := fun e => hx (Or.inl e)
  have x2 : ¬ y < 0 := fun e => hx (Or.inr (Or.inl e))
  have x3 : y ≤ 1 := Classical.byContradiction (fun e => hx (Or.inr (Or.inr e)))
  obtain ⟨t, ht, rfl⟩ := ts_ex x1
  unfold m_Model_side
  rw [isT_ex, ob0_s, if_neg x1]
  have hpt := h2.1.1.2.2.2.2.1 t ht
  have b18 : ∀ q, q < 2 → m_Model_side_b18 n i j a b (nI t) (nI q) z = some (upd i 0 0, j, a, b, m_World_side_r (gParts c.1) (nI t) (nI q) z) := by
    intro q hq
    have g0 := hpt.1 (2 * q) (by omega)
    have g1 := hpt.1 (2 * q + 1) (by omega)
    have e0 : gParts c.1 (7 * t + 2 * q) = Int32.ofInt (pI c.1 t (2 * q)) := (Int32.ofInt_toInt _).symm
    have e1 : gParts c.1 (7 * t + (2 * q + 1)) = Int32.ofInt (pI c.1 t (2 * q + 1)) := (Int32.ofInt_toInt _).symm
    have hv1 := Int32.toInt_lt z
    have hv2 := Int32.le_toInt z
    have ev : z.toInt64 = Int64.ofInt z.toInt := by
      have := i32_64 (x := z.toInt) (by omega) (by omega)
      rw [Int32.ofInt_toInt] at this
      exact this
    unfold m_Model_side_b18 m_Model_side_b23 m_World_side_r
    rw [ob1_s, upd_at, if_neg (by decide), show (2 : Int32) * nI q = nI (2 * q) from pk_mul 2 q, r_row (by omega), ob0_s, cd_at (by omega), ck_n (by omega), show nI (2 * q) + (1 : Int32) = nI (2 * q + 1) from nI_add (2 * q) 1, r_row (by omega), ob0_s, cd_at (by omega), ck_n (by omega), cl_n (by omega), w11 t (2 * q) ht (by omega), w11 t (2 * q + 1) ht (by omega), ts_at ht (by omega), ts_at ht (by omega), e0, e1, side_r g0 g1, i32_64 (by omega) (by omega), i32_64 (by omega) (by omega), ev, show (2 : Int64) = Int64.ofInt 2 from rfl, ← Int64.ofInt_mul, ← Int64.ofInt_sub, r_sign (by omega) (by omega), ob0_s]
  rcases i32_01 x2 x3 with rfl | rfl
  · rw [if_pos (show nI 0 = (0 : Int32) from rfl)]; exact b18 0 (by decide)
  · rw [if_neg (show ¬ nI 1 = (0 : Int32) from by decide), if_pos (show nI 1 = (1 : Int32) from rfl)]; exact b18 1 (by decide)

