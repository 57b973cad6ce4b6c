/-! define in the reference -/
theorem pTells_len : ∀ (D ps : List Proc), ps.length ≤ (pTells ps D).length := by
  intro D
  induction D with
  | nil => intro ps; exact Nat.le_refl _
  | cons d D ih =>
    intro ps
    have h1 := ih (pTell ps d.1 d.2.1 d.2.2)
    rw [pTell_ln] at h1
    show _ ≤ (pTells (pTell ps d.1 d.2.1 d.2.2) D).length
    omega
theorem pTells_lex : ∀ (D ps : List Proc), (∀ p ∈ ps, aLex p.1 = 0) → (∀ p ∈ D, aLex p.1 = 0) → ∀ p ∈ pTells ps D, aLex p.1 = 0 := by
  intro D
  induction D with
  | nil => intro ps h _; exact h
  | cons d D ih => intro ps h h2; exact ih _ (tell_lex h (h2 d List.mem_cons_self)) (fun p hp => h2 p (List.mem_cons_of_mem _ hp))
theorem SL_mono {a : Nat → Nat → Int32} : ∀ (n m : Nat), SL a n ≤ SL a (n + m) := by
  intro n m
  induction m with
  | zero => exact Nat.le_refl _
  | succ m ih => rw [← Nat.add_assoc, SL]; omega
/-- inputs are set down -/
theorem r_d135 {n x k L : Nat} {rc : (Nat → Int32) → (Nat → Int64) → (Nat → Nat → Int32) → (Nat → Nat → Int64) → Int32 → Option ((Nat → Int32) × (Nat → Int64) × (Nat → Nat → Int32) × (Nat → Nat → Int64) × Int32)} {i : Nat → Int32} {j : Nat → Int64} {b : Nat → Nat → Int64} (hx : x < 300) (hk : k < 40) (hL : L ≤ 5) : ∀ (m y f : Nat) (a : Nat → Nat → Int32), y + m = L → m < f → a 88 x = nI L → ∃ f' a', m_Model_define_b135 n rc f i j a b (nI x) (nI k) (nI y) = m_Model_define_b135 n rc (f' + 1) i j a' b (nI x) (nI k) (nI L) ∧ (∀ q, q ≠ 31 → a' q = a q) ∧ (∀ z, (z < 5 * k + y ∨ 5 * k + L ≤ z) → a' 31 z = a 31 z) ∧ (∀ q, y ≤ q → q < L → a' 31 (5 * k + q) = a 89 (5 * x + q)) := by
  intro m
  induction m with
  | zero =>
    intro y f a e hf h88
    obtain ⟨f, rfl⟩ : ∃ f', f = f' + 1 := ⟨f - 1, by omega⟩
    have : y = L := by omega
    subst this
    exact ⟨f, a, rfl, fun _ _ => rfl, fun _ _ => rfl, fun q h1 h2 => by omega⟩
  | succ m ih =>
    intro y f a e hf h88
    obtain ⟨f, rfl⟩ : ∃ f', f = f' + 1 := ⟨f - 1, by omega⟩
    rw [m_Model_define_b135, ck_n (by omega), cl_n (by omega), h88, ile_n (by omega), show (5 : Int32) * nI x = nI (5 * x) from pk_mul 5 x, show (5 : Int32) * nI k = nI (5 * k) from pk_mul 5 k, nI_add, nI_add, ck_n (by omega), ck_n (by omega), ob1_s, cl_n (by omega), cl_n (by omega), ob1_s, show nI y + (1 : Int32) = nI (y + 1) from nI_add _ 1]
    obtain ⟨f', a', q1, q2, q3, q4⟩ := ih (y + 1) f (sv a 31 (5 * k + y) (a 89 (5 * x + y))) (by omega) (by omega) (by rw [sv_row (by decide)]; exact h88)
    refine ⟨f', a', q1, fun q hq => (q2 q hq).trans (sv_row hq), fun z hz => (q3 z (by omega)).trans (sv_ne (by omega)), fun q h1 h2 => ?_⟩
    rcases Classical.em (q = y) with e2 | e2
    · subst e2
      rw [q3 _ (by omega), sv_at]
    · rw [q4 q (by omega) h2, sv_row (by decide)]
/-- one that is told -/
theorem r_tell1 {n f x tok lo : Nat} {i : Nat → Int32} {j : Nat → Int64} {a : Nat → Nat → Int32} {b : Nat → Nat → Int64} {B : RB4} {T : Nat → Tr} {mt : Nat → Nat} {vl : Nat → Bool} {ps D : List Proc} (hn : 200000 ≤ n) (hB : rB i B) (hC : rC1 a b B) (hP : rPr i a b B ps) (h86 : i 86 = nI D.length) (hD : D.length ≤ 200) (hx : x < D.length) (hd : DF1 a B T mt vl lo x (D[x]'hx)) (hlo : lo ≤ tok) (htk : tok ≤ 600) (ht : ∀ q, q < tok → TOK a b B T mt vl q) (hlen : (pTell ps (D[x]'hx).1 (D[x]'hx).2.1 (D[x]'hx).2.2).length ≤ 40) (hr1 : B.2.2.1 + 601 ≤ 90000) (hr2 : B.2.2.2 + 601 ≤ 90000) : ∃ i' a' b' B', m_Model_define_b96 n (f + 1) i j a b (nI x) = m_Model_define_b96 n f i' j a' b' (nI (x + 1)) ∧ rB i' B' ∧ rC1 a' b' B' ∧ rPr i' a' b' B' (pTell ps (D[x]'hx).1 (D[x]'hx).2.1 (D[x]'hx).2.2) ∧ rUp a b B a' b' B' ∧ (B'.1 = B.1 ∧ B'.2.1 = B.2.1 ∧ B'.2.2.1 ≤ B.2.2.1 + (SL a (x + 1) - SL a x) + 1 ∧ B'.2.2.2 ≤ B.2.2.2 + (SL a (x + 1) - SL a x)) ∧ (∀ q, q ≠ 20 → q ≠ 21 → q ≠ 33 → i' q = i q) ∧ (∀ q, q ∉ [12, 13, 14, 29, 30, 31] → a' q = a q) ∧ (∀ q, q ∉ [10, 32, 83] → b' q = b q) := by
  obtain ⟨⟨⟨y, y1, y2⟩, y3⟩, ⟨n1, n2, n3⟩, fr, to, ms, s1, s2, s3, s4, s5, s6⟩ := hd
  generalize D[x]'hx = p at *
  have hto : to ≤ 600 := by omega
  have hle := SEG_le _ _ _ s4
  have hbb := hB.2.2.2.2
  -- its place
  obtain ⟨i1, a1, k, t1, hk, h33, ti, ta, t29, tk⟩ : ∃ i1 a1 k, m_Model_tell n i j a b (nI y) = some (i1, j, a1, b, nI k) ∧ (pFind ps p.1 = some k ∨ (pFind ps p.1 = none ∧ k = ps.length ∧ ps.length < 40)) ∧ i1 33 = nI (pTell ps p.1 p.2.1 p.2.2).length ∧ (∀ q, q ≠ 33 → i1 q = i q) ∧ (∀ q, q ≠ 29 → a1 q = a q) ∧ (∀ m, m ≠ k → a1 29 m = a 29 m) ∧ (k < 40 ∧ ∃ z, a1 29 k = nI z ∧ rW a B z p.1) := by
    have hln := pTell_ln ps p.1 p.2.1 p.2.2
    rcases r_tell (n := n) (j := j) (by omega) y2 hP (fun e => by rw [hln, e] at hlen; have : ps.length + 1 ≤ 40 := hlen; omega) with ⟨k, e1, e2, e3⟩ | ⟨e1, e2⟩
    · rw [e1] at hln
      have hln : (pTell ps p.1 p.2.1 p.2.2).length = ps.length := hln
      have hp2 := hP.2.1
      obtain ⟨hkl, hkn⟩ := pFind_at ps p.1 k e1
      obtain ⟨⟨z, z1, z2⟩, _⟩ := hP.2.2 k hkl
      exact ⟨i, a, k, e3, Or.inl e1, by rw [hln]; exact hP.1, fun _ _ => rfl, fun _ _ => rfl, fun _ _ => rfl, by omega, z, z1, by rw [← hkn]; exact z2⟩
    · rw [e1] at hln
      have hln : (pTell ps p.1 p.2.1 p.2.2).length = ps.length + 1 := hln
      exact ⟨_, _, ps.length, e2, Or.inr ⟨e1, rfl, by omega⟩, by rw [hln, upd_at], fun q hq => upd_ne hq, fun q hq => sv_row hq, fun m hm => sv_ne hm, by omega, y, sv_at, y2⟩
  have hrow1 : ∀ q, q ≠ 29 → q ≠ 30 → sv a1 30 k (nI p.2.1.length) q = a q := fun q q1 q2 => by rw [sv_row q2, ta q q1]
  obtain ⟨f', a3, e1, e2, e3, e4⟩ := r_d135 (n := n) (x := x) (k := k) (L := p.2.1.length) (rc := m_Model_define_b96 n f) (i := i1) (j := j) (b := b) (by omega) tk.1 n2 p.2.1.length 0 n (sv a1 30 k (nI p.2.1.length)) (by omega) (by omega) (by rw [hrow1 88 (by decide) (by decide)]; exact n1)
  have hrow3 : ∀ q, q ≠ 29 → q ≠ 30 → q ≠ 31 → a3 q = a q := fun q q1 q2 q3 => by rw [e2 q q3, hrow1 q q1 q2]
  have hu3 : rUp a b B a3 b B := rUp_same ⟨hrow3 1 (by decide) (by decide) (by decide), hrow3 3 (by decide) (by decide) (by decide), hrow3 4 (by decide) (by decide) (by decide), hrow3 12 (by decide) (by decide) (by decide), hrow3 13 (by decide) (by decide) (by decide), hrow3 14 (by decide) (by decide) (by decide), rfl⟩ hbb
  have hB3 : rB i1 B := rB_i hB (ti 18 (by decide)) (ti 19 (by decide)) (ti 20 (by decide)) (ti 21 (by decide))
  have ht3 : ∀ q, fr ≤ q → q < to → TOK a3 b B T mt vl q := fun q _ q2 => TOK_up (ht q (by omega)) hu3 (by rw [hrow3 79 (by decide) (by decide) (by decide)]) rfl
  have hnd := SEG_nd (to - fr) ms fr to (Nat.le_refl _) s4 ht3
  have hz2 : tNd (tL ms) ≤ 601 := by rw [qm_tL]; omega
  rw [s3] at s6
  obtain ⟨i4, a4, b4, B4, v, l1, l2, l3, l4, l5, l6, l7, l8, l9, l10, l11⟩ := r_listOf (n := n) (i := i1) (j := j) (by omega) hto s4 ⟨s6.1, by omega, s6.2⟩ hB3 ht3 (by omega) hr1
  have huA := rUp_trans hu3 l2
  have hu5 : rUp a4 b4 B4 a4 (svl b4 32 k v) B4 := rUp_b (svl_row (by decide)) l3.2.2.2.2
  have huB := rUp_trans huA hu5
  have hSL : SL a (x + 1) - SL a x = to - fr := by rw [SL, s1, s2, cl_n (by omega), cl_n (by omega)]; omega
  refine ⟨i4, a4, svl b4 32 k v, B4, ?_, l3, fun z hz => ?_, ?_, huB, ⟨l5, l6, by rw [hSL]; exact l7, by rw [hSL]; rw [qm_tL] at l8; omega⟩, fun q q1 q2 q3 => by rw [l9 q q1 q2, ti q q3], fun q hq => by rw [l10 q (fun e => hq (by rw [e]; decide)) (fun e => hq (by rw [e]; decide)) (fun e => hq (by rw [e]; decide)), hrow3 q (fun e => hq (by rw [e]; decide)) (fun e => hq (by rw [e]; decide)) (fun e => hq (by rw [e]; decide))], fun q hq => by rw [svl_row (fun e => hq (by rw [e]; decide)), l11 q (fun e => hq (by rw [e]; decide)) (fun e => hq (by rw [e]; decide))]⟩
  · rw [m_Model_define_b96, h86, ile_n (by omega), ck_n (by omega), cl_n (by omega), y1, t1, om_s, ck_n (by omega), ck_n (by have := tk.1; omega), ob1_s, cl_n (by have := tk.1; omega), ta 88 (by decide), n1]
    have e1 : m_Model_define_b135 n (m_Model_define_b96 n f) n i1 j (sv a1 30 k (nI p.2.1.length)) b (nI x) (nI k) 0 = _ := e1
    rw [e1, m_Model_define_b135, ck_n (by omega), cl_n (by omega), hrow3 88 (by decide) (by decide) (by decide), n1, ile_p (by omega), ck_n (by omega), ck_n (by omega), hrow3 90 (by decide) (by decide) (by decide), hrow3 91 (by decide) (by decide) (by decide), s1, s2, l1, om_s, ck_n (by have := tk.1; omega), ob1_s, cl_n (by have := tk.1; omega), ob1_s, show nI x + (1 : Int32) = nI (x + 1) from nI_add _ 1]
  · obtain ⟨l, hl⟩ := hC z (by rw [← l5]; exact hz)
    exact ⟨l, rK_up huB (by rw [l10 7 (by decide) (by decide) (by decide), hrow3 7 (by decide) (by decide) (by decide)]) (by rw [svl_row (by decide), l11 9 (by decide) (by decide)]) hl⟩
  · have r29 : a4 29 = a1 29 := by rw [l10 29 (by decide) (by decide) (by decide), e2 29 (by decide), sv_row (by decide)]
    have r30 : ∀ z, a4 30 z = sv a1 30 k (nI p.2.1.length) 30 z := fun z => by rw [l10 30 (by decide) (by decide) (by decide), e2 30 (by decide)]
    have r31 : a4 31 = a3 31 := l10 31 (by decide) (by decide) (by decide)
    have r31' : ∀ z, (z < 5 * k ∨ 5 * k + p.2.1.length ≤ z) → a3 31 z = a 31 z := fun z hz => by rw [e3 z (by omega), sv_row (by decide), ta 31 (by decide)]
    refine rPr_tell huB hP hk (by rw [l9 33 (by decide) (by decide)]; exact h33) (fun m hm hne => ⟨by rw [r29]; exact t29 m hne, by rw [r30, sv_ne hne, ta 30 (by decide)], by rw [svl_ne hne, l11 32 (by decide) (by decide)], fun q hq => by rw [r31]; exact r31' _ (by omega)⟩) ⟨?_, by rw [r30, sv_at], n2, fun q hq => ?_, ?_⟩
    · obtain ⟨_, z, z1, z2⟩ := tk
      exact ⟨z, by rw [r29]; exact z1, rW_up huB z2⟩
    · obtain ⟨z, z1, z2⟩ := n3 q hq
      refine ⟨z, ?_, rW_up huB z2⟩
      rw [r31, e4 q (Nat.zero_le _) hq, hrow1 89 (by decide) (by decide)]
      exact z1
    · rw [svl_at, s3]
      exact (rV_up hu5 _).1 _ l4
/-- all that are told -/
theorem r_tells {n tok lo : Nat} {j : Nat → Int64} {T : Nat → Tr} {mt : Nat → Nat} {vl : Nat → Bool} {D : List Proc} (hn : 200000 ≤ n) (hD : D.length ≤ 200) (hlo : lo ≤ tok) (htk : tok ≤ 600) : ∀ (m x f : Nat) (i : Nat → Int32) (a : Nat → Nat → Int32) (b : Nat → Nat → Int64) (B : RB4) (ps : List Proc), x + m = D.length → m < f → rB i B → rC1 a b B → rPr i a b B ps → i 86 = nI D.length → (∀ x (h : x < D.length), DF1 a B T mt vl lo x (D[x]'h)) → (∀ q, q < tok → TOK a b B T mt vl q) → (pTells ps (D.drop x)).length ≤ 40 → B.2.2.1 + (SL a D.length - SL a x) + m + 601 ≤ 90000 → B.2.2.2 + (SL a D.length - SL a x) + 601 ≤ 90000 →
    ∃ f' i' a' b' B', m_Model_define_b96 n f i j a b (nI x) = m_Model_define_b96 n (f' + 1) i' j a' b' (nI D.length) ∧ rB i' B' ∧ rC1 a' b' B' ∧ rPr i' a' b' B' (pTells ps (D.drop x)) ∧ rUp a b B a' b' B' ∧ (∀ q, q ≠ 20 → q ≠ 21 → q ≠ 33 → i' q = i q) ∧ (∀ q, q ∉ [12, 13, 14, 29, 30, 31] → a' q = a q) ∧ (∀ q, q ∉ [10, 32, 83] → b' q = b q) := by
  intro m
  induction m with
  | zero =>
    intro x f i a b B ps e hf h1 h2 h3 h4 h5 h6 h7 h8 h9
    obtain ⟨f, rfl⟩ : ∃ f', f = f' + 1 := ⟨f - 1, by omega⟩
    have : x = D.length := by omega
    subst this
    rw [List.drop_length]
    exact ⟨f, i, a, b, B, rfl, h1, h2, h3, rUp_same ⟨rfl, rfl, rfl, rfl, rfl, rfl, rfl⟩ h1.2.2.2.2, fun _ _ _ _ => rfl, fun _ _ => rfl, fun _ _ => rfl⟩
  | succ m ih =>
    intro x f i a b B ps e hf h1 h2 h3 h4 h5 h6 h7 h8 h9
    obtain ⟨f, rfl⟩ : ∃ f', f = f' + 1 := ⟨f - 1, by omega⟩
    have hx : x < D.length := by omega
    rw [List.drop_eq_getElem_cons hx] at h7 ⊢
    have h7 : (pTells (pTell ps (D[x]'hx).1 (D[x]'hx).2.1 (D[x]'hx).2.2) (D.drop (x + 1))).length ≤ 40 := h7
    have hl := pTells_len (D.drop (x + 1)) (pTell ps (D[x]'hx).1 (D[x]'hx).2.1 (D[x]'hx).2.2)
    have hm1 := SL_mono (a := a) x 1
    have hm2 := SL_mono (a := a) (x + 1) m
    rw [show x + 1 + m = D.length by omega] at hm2
    obtain ⟨i1, a1, b1, B1, q1, q2, q3, q4, q5, ⟨q6, q6', q6a, q6b⟩, q7, q8, q9⟩ := r_tell1 (n := n) (f := f) (j := j) hn h1 h2 h3 h4 hD hx (h5 x hx) hlo htk h6 (by omega) (by omega) (by omega)
    have eSL : ∀ z, SL a1 z = SL a z := fun z => SL_congr z (fun w _ => ⟨by rw [q8 90 (by decide)], by rw [q8 91 (by decide)]⟩)
    obtain ⟨f', i', a', b', B', w1, w2, w3, w4, w5, w6, w7, w8⟩ := ih (x + 1) f i1 a1 b1 B1 (pTell ps (D[x]'hx).1 (D[x]'hx).2.1 (D[x]'hx).2.2) (by omega) (by omega) q2 q3 q4 ((q7 86 (by decide) (by decide) (by decide)).trans h4) (fun z hz => DF1_up (h5 z hz) q5 (Nat.le_refl _) ⟨by rw [q8 87 (by decide)], by rw [q8 88 (by decide)], by rw [q8 90 (by decide)], by rw [q8 91 (by decide)]⟩ (fun q _ => by rw [q8 89 (by decide)]) (fun _ _ => ⟨rfl, rfl, rfl⟩)) (fun q hq => TOK_up (h6 q hq) q5 (by rw [q8 79 (by decide)]) (by rw [q9 80 (by decide)])) h7 (by rw [eSL, eSL]; omega) (by rw [eSL, eSL]; omega)
    exact ⟨f', i', a', b', B', by rw [q1, w1], w2, w3, w4, rUp_trans q5 w5, fun q z1 z2 z3 => (w6 q z1 z2 z3).trans (q7 q z1 z2 z3), fun q hq => (w7 q hq).trans (q8 q hq), fun q hq => (w8 q hq).trans (q9 q hq)⟩
/-- define -/
theorem R_define {n Z : Nat} {i : Nat → Int32} {j : Nat → Int64} {a : Nat → Nat → Int32} {b : Nat → Nat → Int64} {cc : Nat} {w : AW} (hn : 200000 ≤ n) (hcc : cc < 1000000) (h : WR i j a b cc w) (hgl : gL Z (cGP w.1)) (hZ : Z + w.2.2.2.2.2.1 ≤ 10240) (hinv : aInv2 (aDefineW w).1.1) : ∃ i' a' b', m_Model_define n i j a b = some (i', j, a', b', Int32.ofInt (aDefineW w).2) ∧ WR i' j a' b' (cc + 1) (aDefineW w).1 := by
  obtain ⟨c, G0, tl, bk, tp, N, fk, fp⟩ := w
  obtain ⟨⟨B, h0⟩, h2, ⟨t1, t2, t3, t4⟩, ⟨f1, f2, f3⟩, h5⟩ := id h
  obtain ⟨h1, h1', h1'', h1x⟩ := id h0
  obtain ⟨⟨w1, w2, w8, ⟨w9, w10⟩, w11, w12, w14⟩, hR, ⟨w5, w6, w7⟩, ⟨k1, k2, k3, k4, k5, k6⟩, hne, _⟩ := id h1
  have hst : cSt c ≤ 4 := h2.1.2.1.1
  have hph := (phi_ge (a := a) (b := b) B.1).1
  have hph2 := w2.2
  obtain ⟨r1, r2, r3⟩ := hR
  have hZ : Z + N ≤ 10240 := hZ
  have hgl : gL Z (cGP c) := hgl
  unfold aDefineW at hinv ⊢
  dsimp only at hinv ⊢
  unfold m_Model_define
  rw [ob1_s, upd_ne (show 92 ≠ 0 by decide), k1]
  rcases Classical.em (cSt c = 1) with e | e
  · rw [if_pos (show nI (cSt c) = (1 : Int32) by rw [e]; rfl), if_pos e]
    exact ⟨_, _, _, rfl, WR_0 h (Nat.le_succ _)⟩
  rw [if_neg e] at hinv ⊢
  rw [if_neg (show ¬ nI (cSt c) = (1 : Int32) from fun e9 => e ((nI_eq (b := 1) (by omega) (by decide)).mp e9)), ob1_s, ob1_s, ob1_s, ob1_s, ob1_s]
  have hi0 : ∀ q, q ≠ 0 → q ≠ 86 → upd (upd i 0 0) 86 0 q = i q := fun q q1 q2 => by rw [upd_ne q2, upd_ne q1]
  obtain ⟨i9, a11, b12, es, hres⟩ := r_scan (n := n) (N := N) (dfn := true) (P := gProcs c.1) (tp := tp) (i := upd (upd i 0 0) 86 0) (j := j) (a := a) (b := b) (B := B) (by omega) (rB_i w1 (hi0 18 (by decide) (by decide)) (hi0 19 (by decide) (by decide)) (hi0 20 (by decide) (by decide)) (hi0 21 (by decide) (by decide))) w2.1 (by omega) ⟨(hi0 33 (by decide) (by decide)).trans w9.1, w9.2⟩ ⟨(hi0 74 (by decide) (by decide)).trans t1, t2, t3, t4⟩ (fun _ => upd_at)
  have es : m_Model_scan n (upd (upd i 0 0) 86 0) j a b 1 = _ := es
  rw [es, om_s, ob1_s]
  have hread := fun hg => RI_read (dfn := true) (P := gProcs c.1) (n := N) (tp := tp) w9.2.1 hg
  generalize hRd : aRead true (gProcs c.1) tp N = r at *
  have b66 : ∀ (i9 : Nat → Int32), m_Model_define_b66 n (upd i9 74 0) j a11 b12 (upd i 0 0 18) (upd i 0 0 19) (upd i 0 0 20) (upd i 0 0 21) = some (upd (upd (upd (upd (upd i9 74 0) 18 (i 18)) 19 (i 19)) 20 (i 20)) 21 (i 21), j, a11, b12, -(i9 75)) := fun i9 => by
    unfold m_Model_define_b66
    rw [ob1_s, ob1_s, ob1_s, ob1_s, upd_ne (show 75 ≠ 21 by decide), upd_ne (show 75 ≠ 20 by decide), upd_ne (show 75 ≠ 19 by decide), upd_ne (show 75 ≠ 18 by decide), upd_ne (show 75 ≠ 74 by decide), upd_ne (show 18 ≠ 0 by decide), upd_ne (show 19 ≠ 0 by decide), upd_ne (show 20 ≠ 0 by decide), upd_ne (show 21 ≠ 0 by decide)]
  have wf : ∀ {B' : RB4} {f p : Nat}, SF (upd (upd i 0 0) 86 0) a b B i9 a11 b12 B' → i9 75 = nI f → (f ≠ 0 → i9 76 = nI p) → f < 100 → WR (upd (upd (upd (upd (upd i9 74 0) 18 (i 18)) 19 (i 19)) 20 (i 20)) 21 (i 21)) j a11 b12 (cc + 1) (c, G0, tl, bk, tp, 0, f, p) := fun hF q75 q76 qf => WR_fault hi0 h0 h2 t4 h5 hF (fun q q1 q2 q3 q4 q5 => by rw [upd_ne q5, upd_ne q4, upd_ne q3, upd_ne q2, upd_ne q1]) (by rw [upd_ne (by decide), upd_ne (by decide), upd_ne (by decide), upd_ne (by decide), upd_at]) (by rw [upd_ne (by decide), upd_ne (by decide), upd_ne (by decide), upd_at]) (by rw [upd_ne (by decide), upd_ne (by decide), upd_at]) (by rw [upd_ne (by decide), upd_at]) upd_at q75 q76 qf
  rcases hres with ⟨c0, hbad⟩ | ⟨c0, B2, T, mt, vl, lo, hsi⟩
  · obtain ⟨B9, hF9⟩ := hbad.1
    rw [decide_eq_false c0, if_pos (show b1 false = (0 : Int32) from rfl), b66, if_pos c0, hbad.2.1, nI_neg]
    exact ⟨_, _, _, rfl, wf hF9 hbad.2.1 (fun _ => hbad.2.2.1) (by have := hbad.2.2.2; omega)⟩
  obtain ⟨ri, rt, rl, rs⟩ := hread c0
  have hst0 := rs rfl
  rw [if_neg (not_not_intro c0)] at hinv ⊢
  rw [decide_eq_true c0, if_neg (show ¬ b1 true = (0 : Int32) by decide)]
  obtain ⟨⟨hF, hbd, hCO⟩, ⟨hRI, _⟩, ⟨hk, _, _⟩, hdd, _⟩ := hsi
  obtain ⟨⟨d84, d85, d86⟩, dA, ⟨dB, dC⟩, dD, _, _⟩ := hdd rfl
  obtain ⟨c1, c2, c3, c4, c5, c6⟩ := hCO
  have eD : rdD r = r.2.2.2.1 := rfl
  rw [eD] at hinv ⊢
  generalize hDD : r.2.2.2.1 = D at *
  rw [upd_ne (show 86 ≠ 74 by decide), d86]
  rcases Classical.em (D = []) with dn | dn
  · rw [if_pos dn, if_pos (show nI D.length = (0 : Int32) by rw [dn]; rfl), b66, c3]
    exact ⟨_, _, _, rfl, wf hF c3 (fun e => absurd rfl e) (by decide)⟩
  have hDl : 0 < D.length := List.length_pos_iff.mpr dn
  rw [if_neg dn] at hinv ⊢
  rw [if_neg (show ¬ nI D.length = (0 : Int32) from fun e9 => by have := (nI_eq (b := 0) (by omega) (by decide)).mp e9; omega)]
  obtain ⟨s1, s2, s3, s4, s5⟩ := id hF
  have x11 := ri.2.2.2.2.2.2.2.2.2.2.1
  have x12 := ri.2.2.2.2.2.2.2.2.2.2.2
  rw [if_neg (fun hh => absurd hh.1 (by rw [hst0]; decide)), Nat.add_zero, hDD] at x11
  have hlen : (pTells (gProcs c.1) D).length ≤ 40 := by omega
  have x4 := ri.2.2.2.1
  rw [hDD] at x4
  have hexD : exP D ≤ N := by
    have := exP_dSz D
    omega
  have eB : B2.2.2.1 = B.2.2.1 ∧ B2.2.2.2 = B.2.2.2 := ⟨by rw [hbd.2.2], by rw [hbd.2.2]⟩
  have hpr2 : rPr (upd i9 74 0) a11 b12 B2 (gProcs c.1) := rPr_up s4 (by rw [upd_ne (by decide), s1 33 (by decide)]; exact hi0 33 (by decide) (by decide)) (fun m _ => by rw [s2 29 (by decide), s2 30 (by decide), s3 32 (by decide) (by decide)]; exact ⟨rfl, rfl, rfl⟩) (fun m _ => by rw [s2 31 (by decide)]) w9
  obtain ⟨f', i3, a3, b3, B3, q1, q2, q3, q4, q5, q6, q7, q8⟩ := r_tells (n := n) (tok := r.2.2.1) (lo := lo) (j := j) (T := T) (mt := mt) (vl := vl) (D := D) hn (by omega) dB c5 D.length 0 n (upd i9 74 0) a11 b12 B2 (gProcs c.1) (by omega) (by omega) (rB_i c1 (upd_ne (by decide)) (upd_ne (by decide)) (upd_ne (by decide)) (upd_ne (by decide))) c2 hpr2 ((upd_ne (by decide)).trans d86) dD (fun q hq => (c6 q hq).1) (by rw [List.drop_zero]; exact hlen) (by omega) (by omega)
  rw [List.drop_zero] at q4
  have q1 : m_Model_define_b96 n n (upd i9 74 0) j a11 b12 0 = _ := q1
  have i86 : i3 86 = nI D.length := (q6 86 (by decide) (by decide) (by decide)).trans ((upd_ne (by decide)).trans d86)
  rw [q1, m_Model_define_b96, i86, ile_p (by omega), ob1_s, show (0 : Int32) = Int32.ofInt 0 from rfl, r_number (by decide) (by decide), ob0_s]
  have huA := rUp_trans s4 q5
  have hgl1 : rGl (upd i3 100 1) a3 b3 B3 (gGlob c.1) := rGl_up huA (by rw [upd_ne (by decide), q6 36 (by decide) (by decide) (by decide), upd_ne (by decide), s1 36 (by decide)]; exact hi0 36 (by decide) (by decide)) (fun m _ => by rw [q7 34 (by decide), s2 34 (by decide), q8 35 (by decide), s3 35 (by decide) (by decide)]; exact ⟨rfl, rfl⟩) w8
  have hpr1 : rPr (upd i3 100 1) a3 b3 B3 (pTells (gProcs c.1) D) := ⟨(upd_ne (by decide)).trans q4.1, q4.2⟩
  have hex : exP (pTells (gProcs c.1) D) ≤ 10240 := by
    have := exP_tells (gProcs c.1) D
    have hg2 : exP (gProcs c.1) ≤ Z := hgl.2
    omega
  have z1 := pz_room hpr1 hex
  have z2 := gz_room hgl1 hgl.1
  have v0 : rV a3 b3 B3 (tN 0) none (vN 0) := ⟨rfl, by decide, by decide, rfl⟩
  obtain ⟨i20, a22, b23, B4, v3, d1, d2, d3, d4, d5, d6, d7, d8, d9, d10, d11⟩ := r_tidy (n := n) (j := j) (T1 := 68000) (T2 := 55000) hn (rB_i q2 (upd_ne (by decide)) (upd_ne (by decide)) (upd_ne (by decide)) (upd_ne (by decide))) q3 hgl1 hpr1 v0 (by decide) (by show pzP (pTells (gProcs c.1) D) + gzG (gGlob c.1) + 1 ≤ 68000; have := z1.1; have := z2.1; omega) (by show pmP (pTells (gProcs c.1) D) + gmG (gGlob c.1) + 1 ≤ 55000; have := z1.2; have := z2.2; omega)
  rw [d1, om_s]
  have hi20 : ∀ q, q ∉ scI → q ∉ [18, 19, 20, 21, 67, 68, 69, 70] → q ≠ 74 → q ≠ 0 → q ≠ 100 → q ≠ 33 → i20 q = i q := fun q q1 q2 q3 q4 q5 q9 => by
    rw [d9 q q2, upd_ne q5, q6 q (fun e => q2 (by rw [e]; decide)) (fun e => q2 (by rw [e]; decide)) q9, upd_ne q3, s1 q q1]
    exact hi0 q q4 (fun e => q1 (by rw [e]; decide))
  have hrowA : ∀ q, q ∉ scA → q ∉ tdA → q ∉ [12, 13, 14, 29, 30, 31] → a22 q = a q := fun q q1 q2 q3 => by rw [d10 q q2, q7 q q3, s2 q q1]
  have h45 : a22 45 = a 45 := hrowA 45 (by decide) (by decide) (by decide)
  have hx := hi20
  have i20_86 : i20 86 = nI D.length := by rw [d9 86 (by decide), upd_ne (by decide)]; exact i86
  have hFn := (hne e).2
  have hlexD : ∀ p ∈ D, aLex p.1 = 0 := fun p hp => by
    obtain ⟨z, hz, rfl⟩ := List.getElem_of_mem hp
    exact (dD z hz).1.2
  refine ⟨i20, a22, b23, by rw [i20_86, nI_ofInt], ⟨B4, ⟨⟨d2, d3, d5, ⟨d6, pTells_lex D _ w10 hlexD⟩, rTu_up w11 (fun q q1 q2 => hrowA q (by simp [scA]; omega) (by simp [tdA]; omega) (by simp; omega)) (hx 47 (by decide) (by decide) (by decide) (by decide) (by decide) (by decide)), rOut_up w12 rfl h45, (hx 46 (by decide) (by decide) (by decide) (by decide) (by decide) (by decide)).trans w14⟩, ⟨by omega, by omega, by omega⟩, ?_, ⟨(hx 92 (by decide) (by decide) (by decide) (by decide) (by decide) (by decide)).trans k1, (hx 97 (by decide) (by decide) (by decide) (by decide) (by decide) (by decide)).trans k2, (hx 98 (by decide) (by decide) (by decide) (by decide) (by decide) (by decide)).trans k3, (hx 93 (by decide) (by decide) (by decide) (by decide) (by decide) (by decide)).trans k4, (hx 95 (by decide) (by decide) (by decide) (by decide) (by decide) (by decide)).trans k5, (hx 96 (by decide) (by decide) (by decide) (by decide) (by decide) (by decide)).trans k6⟩, fun hs => ⟨(hx 94 (by decide) (by decide) (by decide) (by decide) (by decide) (by decide)).trans (hne hs).1, (hne hs).2⟩, fun hs => absurd hs e⟩, Nat.le_trans h1' (by omega), (fun e => by cases e), fun _ => ⟨e, Or.inr ?_⟩⟩, hinv, ⟨?_, Nat.zero_le _, fun k hk => absurd hk (Nat.not_lt_zero _), t4⟩, ⟨?_, by decide, fun e => absurd rfl e⟩, fun hs => absurd hs e⟩
  · have e9 : c.2.2.1 = [] := hFn.2
    refine ⟨?_, ?_, ?_⟩
    · show rFr a22 b23 B4 c.2.2.1
      rw [e9]; trivial
    · show rCp a22 c.2.2.1
      rw [e9]; trivial
    · show i20 99 = nI c.2.2.1.length
      rw [hx 99 (by decide) (by decide) (by decide) (by decide) (by decide) (by decide)]
      exact w7
  · rw [d9 100 (by decide), upd_at]
    decide
  · rw [d9 74 (by decide), upd_ne (by decide), q6 74 (by decide) (by decide) (by decide), upd_at]
    rfl
  · rw [d9 75 (by decide), upd_ne (by decide), q6 75 (by decide) (by decide) (by decide), upd_ne (by decide)]
    exact c3

