/-! the lists that wait are copied -/
def qz (qs : List Tr) : Nat := (qs.map tSz).sum
def qn (qs : List Tr) : Nat := (qs.map (fun t => tNd t - 1)).sum
def qm (qs : List Tr) : Nat := (qs.map tNd).sum
theorem qz_c (t : Tr) (qs : List Tr) : qz (t :: qs) = tSz t + qz qs := by unfold qz; rw [List.map_cons, List.sum_cons]
theorem qn_c (t : Tr) (qs : List Tr) : qn (t :: qs) = tNd t - 1 + qn qs := by unfold qn; rw [List.map_cons, List.sum_cons]
theorem qm_c (t : Tr) (qs : List Tr) : qm (t :: qs) = tNd t + qm qs := by unfold qm; rw [List.map_cons, List.sum_cons]
theorem qz_s (t : Tr) (qs : List Tr) : qz (qs ++ [t]) = qz qs + tSz t := by unfold qz; rw [List.map_append, List.sum_append]; simp
theorem qn_s (t : Tr) (qs : List Tr) : qn (qs ++ [t]) = qn qs + (tNd t - 1) := by unfold qn; rw [List.map_append, List.sum_append]; simp
theorem rV_nd {a : Nat → Nat → Int32} {b : Nat → Nat → Int64} {B : RB4} {t : Tr} {v : Int64} (h : rV a b B t none v) : 1 ≤ tNd t ∧ 1 ≤ tSz t := by
  rcases rV_cases h with ⟨z, rfl, _, _, rfl⟩ | ⟨l, w, rfl, rfl, hrw⟩ | ⟨ms, l, p, rfl, rfl, hH, _⟩
  · exact ⟨Nat.le_refl 1, Nat.le_refl 1⟩
  · have hl : l ≠ [] := hrw.2.2.2.1
    rw [tSz_tW]
    cases l with
    | nil => exact absurd rfl hl
    | cons c l => exact ⟨Nat.le_refl 1, by simp⟩
  · rw [tNd_tL, tSz_tL]; omega
theorem qm_ge {a : Nat → Nat → Int32} {b : Nat → Nat → Int64} {B : RB4} : ∀ (rs : List Tr) (f : Nat → Int64), (∀ k (h : k < rs.length), rV a b B (rs[k]'h) none (f k)) → qn rs + rs.length = qm rs := by
  intro rs
  induction rs with
  | nil => intro _ _; rfl
  | cons t rs ih =>
    intro f h
    have h0 := (rV_nd (h 0 (by simp))).1
    have h0 : 1 ≤ tNd t := h0
    have := ih (fun k => f (k + 1)) (fun k hk => h (k + 1) (by simp only [List.length_cons]; omega))
    rw [qn_c, qm_c, List.length_cons]
    omega
theorem svl_row {b : Nat → Nat → Int64} {k s q : Nat} {v : Int64} (h : q ≠ k) : svl b k s v q = b q := by
  unfold svl updB
  exact if_neg h
theorem MIl_b {a0 : Nat → Nat → Int32} {b0 : Nat → Nat → Int64} {a : Nat → Nat → Int32} {b : Nat → Nat → Int64} {B : RB4} {P C : Nat} {qs : List Tr} {s : Nat} {v : Int64} (h : MIl a0 b0 B a b P C qs) (hs : C ≤ s) : MIl a0 b0 B a (svl b 11 s v) P C qs := by
  obtain ⟨h1, h2, h3⟩ := h
  refine ⟨h1, h2, fun k hk => ?_⟩
  obtain ⟨l, c, cnt, p, e1, e2, e3, e4, e5, e6, e7, e8, e9⟩ := h3 k hk
  exact ⟨l, c, cnt, p, e1, e2, e3, e4, e5, e6, e7, e8, fun m hm => by have := e8.1; rw [svl_ne (by omega)]; exact e9 m hm⟩
/-- the members of a list -/
theorem r_t279 {n : Nat} {j : Nat → Int64} {a0 : Nat → Nat → Int32} {b0 : Nat → Nat → Int64} {B : RB4} {rc : (Nat → Int32) → (Nat → Int64) → (Nat → Nat → Int32) → (Nat → Nat → Int64) → Int64 → Int32 → Option ((Nat → Int32) × (Nat → Int64) × (Nat → Nat → Int32) × (Nat → Nat → Int64) × Int64)} {P c0 cnt l p S1 S2 S3 : Nat} {t0 : Tr} {v3 : Int64} (hS : S1 ≤ 110000 ∧ S2 < 90000 ∧ S3 < 90000) (hl : l < 90000) (hlb : a0 12 l = nI p ∧ a0 13 l = nI cnt ∧ p + cnt ≤ 90000) (hP : P < 90000) : ∀ (rs : List Tr) (m f : Nat) (i : Nat → Int32) (a : Nat → Nat → Int32) (b : Nat → Nat → Int64) (W L : Nat) (qr : List Tr), m + rs.length = cnt → rs.length < f → MI a0 b0 B i a b W L P c0 (c0 + cnt) (t0 :: qr) → a 15 P = nI c0 → (∀ k (h : k < rs.length), rV a0 b0 B (rs[k]'h) none (b0 10 (p + m + k))) → (∀ k, k < m → mv a (b0 10 (p + k)) (b 11 (c0 + k))) → L + qz rs + qz qr ≤ S1 → P + 1 + qr.length + qm rs + qn qr ≤ S2 → c0 + cnt + qn rs + qn qr ≤ S3 →
    ∃ i' a' b' W' L' qr', m_Model_tidy_b279 n rc f i j a b v3 (nI P) (nI l) (nI m) = rc i' j a' b' v3 (nI (P + 1)) ∧ MI a0 b0 B i' a' b' W' L' P c0 (c0 + cnt) (t0 :: qr') ∧ (∀ k, k < cnt → mv a' (b0 10 (p + k)) (b' 11 (c0 + k))) ∧ L' + qz qr' ≤ S1 ∧ P + 1 + qr'.length + qn qr' ≤ S2 ∧ c0 + cnt + qn qr' ≤ S3 ∧ ext a a' ∧ (∀ q, q ≠ 67 → q ≠ 68 → q ≠ 70 → i' q = i q) ∧ (∀ q, q ∉ [2, 5, 6, 8, 17, 71] → a' q = a q) ∧ (∀ q, q ≠ 11 → b' q = b q) := by
  intro rs
  induction rs with
  | nil =>
    intro m f i a b W L qr hm hf h h15 hv hd b1 b2 b3
    obtain ⟨f, rfl⟩ : ∃ f', f = f' + 1 := ⟨f - 1, by omega⟩
    have o13 : a 13 = a0 13 := h.2.2.1.2.2.2.2.1
    have hm2 : m = cnt := hm
    rw [m_Model_tidy_b279, ck_n (by omega), cl_n (by omega), o13, hlb.2.1, ile_p (by omega), ob1_s, show nI P + (1 : Int32) = nI (P + 1) from nI_add P 1]
    exact ⟨i, a, b, W, L, qr, rfl, h, fun k hk => hd k (by omega), by unfold qz at b1 ⊢; simpa using b1, by unfold qm at b2; simpa using b2, by unfold qn at b3 ⊢; simpa using b3, ext_refl, fun _ _ _ _ => rfl, fun _ _ => rfl, fun _ _ => rfl⟩
  | cons t rs ih =>
    intro m f i a b W L qr hm hf h h15 hv hd b1 b2 b3
    obtain ⟨f, rfl⟩ : ∃ f', f = f' + 1 := ⟨f - 1, by omega⟩
    rw [List.length_cons] at hm hf
    rw [qz_c] at b1
    rw [qm_c] at b2
    rw [qn_c] at b3
    have o13 : a 13 = a0 13 := h.2.2.1.2.2.2.2.1
    have o12 : a 12 = a0 12 := h.2.2.1.2.2.2.1
    have o10 : b 10 = b0 10 := h.2.2.1.2.2.2.2.2.2
    have hv0 : rV a0 b0 B t none (b0 10 (p + m)) := hv 0 (by simp)
    have hnd := rV_nd hv0
    rw [m_Model_tidy_b279, ck_n (by omega), cl_n (by omega), o13, hlb.2.1, ile_n (by omega), ck_n (by omega), ck_n (by omega), o12, hlb.1, nI_add, ck_n (by omega), cl_n (by omega), o10]
    obtain ⟨i1, a1, W1, L1, qs1, v1, e1, e2, e3, e4, e5, e6, e7, e8⟩ := r_move (n := n) (j := j) h hv0 (by omega) (by rw [List.length_cons]; omega)
    rw [e1, om_s, cl_n (k := P) (by omega), h15, nI_add, ck_n (by omega), cl_n (by omega), ob1_s, ob1_s, show nI m + (1 : Int32) = nI (m + 1) from nI_add m 1]
    have hq : ∃ qr1, qs1 = t0 :: qr1 ∧ ((qr1 = qr ∧ L1 ≤ L + tSz t) ∨ (qr1 = qr ++ [t] ∧ L1 = L)) := by
      rcases e8 with ⟨q1, q2⟩ | ⟨q0, q1, q2⟩
      · exact ⟨qr, q1, Or.inl ⟨rfl, q2⟩⟩
      · exact ⟨qr ++ [t], by rw [q1]; rfl, Or.inr ⟨rfl, q2⟩⟩
    obtain ⟨qr1, rfl, hq⟩ := hq
    obtain ⟨w1, w2, w3, w4⟩ := e2
    have hb : L1 + qz rs + qz qr1 ≤ S1 ∧ P + 1 + qr1.length + qm rs + qn qr1 ≤ S2 ∧ c0 + cnt + qn rs + qn qr1 ≤ S3 := by
      rcases hq with ⟨rfl, q2⟩ | ⟨rfl, q2⟩
      · exact ⟨by omega, by omega, by omega⟩
      · rw [qz_s, qn_s, List.length_append, List.length_singleton]
        exact ⟨by omega, by omega, by omega⟩
    obtain ⟨i', a', b', W', L', qr', f1, f2, f3, f4, f5, f6, f7, f8, f9, f10⟩ := ih (m + 1) f i1 a1 (svl b 11 (c0 + m) v1) W1 L1 qr1 (by omega) (by omega) ⟨w1, MIl_b w2 (by omega), ⟨w3.1, w3.2.1, w3.2.2.1, w3.2.2.2.1, w3.2.2.2.2.1, w3.2.2.2.2.2.1, by rw [svl_row (by decide)]; exact w3.2.2.2.2.2.2⟩, w4⟩ (by rw [e6 15 (by decide)]; exact h15) (fun k hk => by
      have := hv (k + 1) (by simp only [List.length_cons]; omega)
      rw [show p + (m + 1) + k = p + m + (k + 1) by omega]
      exact this) (fun k hk => by
      rcases (by omega : k = m ∨ k < m) with rfl | hk2
      · rw [svl_at]; exact e3
      · rw [svl_ne (by omega)]; exact mv_ext (hd k hk2) e4) hb.1 hb.2.1 hb.2.2
    exact ⟨i', a', b', W', L', qr', f1, f2, f3, f4, f5, f6, ext_trans e4 f7, fun q q1 q2 q3 => (f8 q q1 q2 q3).trans (e5 q q1 q2 q3), fun q hq => (f9 q hq).trans (e6 q hq), fun q hq => (f10 q hq).trans (svl_row hq)⟩
theorem qz_tL (ms : List Tr) : tSz (tL ms) = 1 + qz ms := tSz_tL ms
theorem qm_tL (ms : List Tr) : tNd (tL ms) = 1 + qm ms := tNd_tL ms
/-- all lists that wait -/
theorem r_t217 {n : Nat} {j : Nat → Int64} {a0 : Nat → Nat → Int32} {b0 : Nat → Nat → Int64} {B : RB4} {S1 S2 S3 : Nat} {v3 : Int64} (hn : 1201 ≤ n) (hS : S1 ≤ 110000 ∧ S2 < 90000 ∧ S3 < 90000) : ∀ (m f : Nat) (i : Nat → Int32) (a : Nat → Nat → Int32) (b : Nat → Nat → Int64) (W L P C : Nat) (qs : List Tr), S2 - P ≤ m → m < f → MI a0 b0 B i a b W L P C C qs → (∀ t ∈ qs, isL t = true) → L + qz qs ≤ S1 → P + qs.length + qn qs ≤ S2 → C + qn qs ≤ S3 →
    ∃ i' a' b' W' L' Q C', m_Model_tidy_b217 n f i j a b v3 (nI P) = m_Model_tidy_b340 n n i' j a' b' v3 (nI 0) ∧ MI a0 b0 B i' a' b' W' L' Q C' C' [] ∧ L' ≤ S1 ∧ Q ≤ S2 ∧ C' ≤ S3 ∧ ext a a' ∧ (∀ q, q ≠ 67 → q ≠ 68 → q ≠ 69 → q ≠ 70 → i' q = i q) ∧ (∀ q, q ∉ [2, 5, 6, 8, 15, 16, 17, 71] → a' q = a q) ∧ (∀ q, q ≠ 11 → b' q = b q) := by
  intro m
  induction m with
  | zero =>
    intro f i a b W L P C qs hm hf h hq b1 b2 b3
    obtain ⟨f, rfl⟩ : ∃ f', f = f' + 1 := ⟨f - 1, by omega⟩
    have hz : qs = [] := List.length_eq_zero_iff.mp (by omega)
    subst hz
    rw [m_Model_tidy_b217, h.2.2.2.2.2.2, ile_p (by simp; omega)]
    exact ⟨i, a, b, W, L, P, C, rfl, h, by unfold qz at b1; simpa using b1, by omega, by omega, ext_refl, fun _ _ _ _ _ => rfl, fun _ _ => rfl, fun _ _ => rfl⟩
  | succ m ih =>
    intro f i a b W L P C qs hm hf h hq b1 b2 b3
    obtain ⟨f, rfl⟩ : ∃ f', f = f' + 1 := ⟨f - 1, by omega⟩
    cases qs with
    | nil =>
      rw [m_Model_tidy_b217, h.2.2.2.2.2.2, ile_p (by simp; omega)]
      exact ⟨i, a, b, W, L, P, C, rfl, h, by unfold qz at b1; simpa using b1, by simpa using Nat.le_trans (Nat.le_add_right _ _) b2, by omega, ext_refl, fun _ _ _ _ _ => rfl, fun _ _ => rfl, fun _ _ => rfl⟩
    | cons t0 qr =>
      obtain ⟨hw, hl, ho, h67, h68, h69, h70⟩ := h
      obtain ⟨o1, o3, o4, o12, o13, o14, o10⟩ := id ho
      obtain ⟨g1, g2, g3⟩ := id hl
      rw [List.length_cons] at h70 b2 g1
      rw [qz_c] at b1
      rw [qn_c] at b2 b3
      obtain ⟨l, l1, l2, l3, l4⟩ := g2 0 (by simp)
      have l4 : rV a0 b0 B t0 none (vL l) := l4
      rw [Nat.add_zero] at l2 l3
      have et := r_isL_eq l4 (hq t0 (by simp))
      generalize hms : tMem t0 = ms at et
      subst et
      obtain ⟨l', p, ex, ⟨r1, r2, r3, r4, r5, r6, r7, r8, r9, r10⟩, hmem⟩ := rV_tL.mp l4
      have hll : l' = l := by
        have := (v_ne (x := 4 * (l : Int) + 2) (y := 4 * (l' : Int) + 2) (by omega) (by omega)).mp ex
        omega
      subst hll
      rw [qm_tL] at r9 b2 b3
      rw [qz_tL] at b1
      have hlen := qm_ge ms (fun k => b0 10 (p + k)) hmem
      rw [m_Model_tidy_b217, h70, ile_n (by omega), ck_n (by omega), cl_n (by omega), ob1_s, l2, ck_n (by omega), h69, ob1_s, ck_n (by omega), ck_n (by omega), cl_n (by omega), sv_row (show 13 ≠ 15 by decide), o13, r5, ob1_s, ck_n (by omega), sv_row (show 13 ≠ 16 by decide), sv_row (show 13 ≠ 15 by decide), o13, r5, ob1_s, nI_add, ob1_s]
      obtain ⟨a1, ea1⟩ : ∃ a1, a1 = sv (sv a 15 P (nI C)) 16 P (nI ms.length) := ⟨_, rfl⟩
      rw [← ea1]
      have q15 : a1 15 P = nI C := by rw [ea1, sv_row (by decide), sv_at]
      have q16 : a1 16 P = nI ms.length := by rw [ea1, sv_at]
      have q15n : ∀ z, z ≠ P → a1 15 z = a 15 z := fun z hz => by rw [ea1, sv_row (by decide), sv_ne hz]
      have q16n : ∀ z, z ≠ P → a1 16 z = a 16 z := fun z hz => by rw [ea1, sv_ne hz, sv_row (by decide)]
      have qo : ∀ q, q ≠ 15 → q ≠ 16 → a1 q = a q := fun q q1 q2 => by rw [ea1, sv_row q2, sv_row q1]
      have hM : MI a0 b0 B (upd i 69 (nI (C + ms.length))) a1 b W L P C (C + ms.length) (tL ms :: qr) := by
        refine ⟨?_, ⟨?_, ?_, fun k hk => ?_⟩, ⟨(qo 1 (by decide) (by decide)).trans o1, (qo 3 (by decide) (by decide)).trans o3, (qo 4 (by decide) (by decide)).trans o4, (qo 12 (by decide) (by decide)).trans o12, (qo 13 (by decide) (by decide)).trans o13, (qo 14 (by decide) (by decide)).trans o14, o10⟩, by rw [upd_ne (by decide)]; exact h67, by rw [upd_ne (by decide)]; exact h68, upd_at, by rw [upd_ne (by decide)]; exact h70⟩
        · obtain ⟨u1, u2, u3, u4⟩ := hw
          have ew : ∀ x y, wcp a0 a L x y → wcp a0 a1 L x y := fun x y hc => wcp_up hc (Nat.le_refl _) (by rw [qo 5 (by decide) (by decide)]) (by rw [qo 6 (by decide) (by decide)]) (fun k _ => by rw [qo 2 (by decide) (by decide)])
          refine ⟨fun x hx => ?_, fun y hy => ?_, by rw [qo 6 (by decide) (by decide)]; exact u3, fun k hk => by rw [qo 2 (by decide) (by decide)]; exact u4 k hk⟩
          · rw [qo 8 (by decide) (by decide)]
            rcases u1 x hx with e9 | ⟨y, y1, y2, y3⟩
            · exact Or.inl e9
            · exact Or.inr ⟨y, y1, y2, ew x y y3⟩
          · obtain ⟨x, x1, x2⟩ := u2 y hy
            exact ⟨x, x1, ew x y x2⟩
        · rw [qo 17 (by decide) (by decide), qo 71 (by decide) (by decide)]; exact hl.1
        · rw [qo 17 (by decide) (by decide), qo 71 (by decide) (by decide)]; exact hl.2.1
        · obtain ⟨z, c, cnt, p', z1, z2, z3, z4, z5, z6, z7, z8, z9⟩ := g3 k hk
          exact ⟨z, c, cnt, p', z1, by rw [qo 71 (by decide) (by decide)]; exact z2, by rw [qo 17 (by decide) (by decide)]; exact z3, z4, z5, by rw [q15n k (by omega)]; exact z6, by rw [q16n k (by omega)]; exact z7, z8, fun m hm => mv_ext (z9 m hm) ⟨fun x _ => by rw [qo 8 (by decide) (by decide)], fun x _ => by rw [qo 17 (by decide) (by decide)]⟩⟩
      obtain ⟨i2, a2, b2', W2, L2, qr2, f1, f2, f3, f4, f5, f6, f7, f8, f9, f10⟩ := r_t279 (n := n) (j := j) (rc := m_Model_tidy_b217 n f) (P := P) (c0 := C) (cnt := ms.length) (l := l') (p := p) (t0 := tL ms) (v3 := v3) hS (by omega) ⟨r4, r5, by omega⟩ (by omega) ms 0 n (upd i 69 (nI (C + ms.length))) a1 b W L qr (by omega) (by omega) hM q15 (fun k hk => by rw [Nat.add_zero]; exact hmem k hk) (fun k hk => absurd hk (Nat.not_lt_zero _)) (by omega) (by omega) (by omega)
      have f1 : m_Model_tidy_b279 n (m_Model_tidy_b217 n f) n (upd i 69 (nI (C + ms.length))) j a1 b v3 (nI P) (nI l') 0 = _ := f1
      rw [f1]
      obtain ⟨x1, ⟨x2, x3, x4⟩, x5, x6, x7, x8, x9⟩ := f2
      have hq2 : ∀ t ∈ qr2, isL t = true := by
        intro t ht
        obtain ⟨k, hk, rfl⟩ := List.mem_iff_getElem.mp ht
        obtain ⟨z, _, _, _, z4⟩ := x3 (k + 1) (by simp only [List.length_cons]; omega)
        have z4 : rV a0 b0 B qr2[k] none (vL z) := z4
        have := (r_kinds 0 z4).2.2
        rw [(r_isL 0 z).2.2] at this
        cases hi : isL qr2[k] with
        | true => rfl
        | false => rw [hi] at this; cases this
      have hM2 : MI a0 b0 B i2 a2 b2' W2 L2 (P + 1) (C + ms.length) (C + ms.length) qr2 := by
        rw [List.length_cons] at x2 x9
        refine ⟨x1, ⟨fun z hz => ?_, fun k hk => ?_, fun k hk => ?_⟩, x5, x6, x7, x8, by rw [x9]; congr 1; omega⟩
        · rcases x2 z hz with e9 | ⟨k, k1, k2, k3⟩
          · exact Or.inl e9
          · exact Or.inr ⟨k, by omega, k2, k3⟩
        · obtain ⟨z, z1, z2, z3, z4⟩ := x3 (k + 1) (by simp only [List.length_cons]; omega)
          rw [show P + (k + 1) = P + 1 + k by omega] at z2 z3
          exact ⟨z, z1, z2, z3, z4⟩
        · rcases (by omega : k = P ∨ k < P) with rfl | hk2
          · obtain ⟨z, z1, z2, z3, z4⟩ := x3 0 (by simp)
            rw [Nat.add_zero] at z2 z3
            have hzl : z = l' := by
              have h71a : a1 71 k = nI l' := by rw [qo 71 (by decide) (by decide)]; exact l2
              have z4 : rV a0 b0 B (tL ms) none (vL z) := z4
              have h17 : a2 17 l' = a1 17 l' := f7.2 l' (by rw [qo 17 (by decide) (by decide), l3]; exact nI_m1 (by omega))
              rw [qo 17 (by decide) (by decide), l3] at h17
              rcases x2 l' l1 with e9 | ⟨y, y1, y2, y3⟩
              · rw [h17] at e9; exact absurd e9 (nI_m1 (by omega))
              · rw [h17] at y2
                have := (nI_eq (by omega) (by omega)).mp y2
                subst this
                rw [z2] at y3
                exact (nI_eq (by omega) (by omega)).mp y3
            subst hzl
            exact ⟨z, C, ms.length, p, z1, z2, z3, r4, r5, by rw [f9 15 (by decide)]; exact q15, by rw [f9 16 (by decide)]; exact q16, ⟨Nat.le_refl _, by omega, by omega⟩, f3⟩
          · obtain ⟨z, c, cnt, p', z1, z2, z3, z4, z5, z6, z7, z8, z9⟩ := x4 k hk2
            exact ⟨z, c, cnt, p', z1, z2, z3, z4, z5, z6, z7, ⟨by have := z8.1; omega, z8.2⟩, z9⟩
      obtain ⟨i', a', b', W', L', Q, C', k1, k2, k3, k4, k5, k6, k7, kk8, k9⟩ := ih f i2 a2 b2' W2 L2 (P + 1) (C + ms.length) qr2 (by omega) (by omega) hM2 hq2 f4 (by omega) f6
      exact ⟨i', a', b', W', L', Q, C', k1, k2, k3, k4, k5, ext_trans (ext_trans ⟨fun x _ => by rw [qo 8 (by decide) (by decide)], fun x _ => by rw [qo 17 (by decide) (by decide)]⟩ f7) k6, fun q q1 q2 q3 q4 => ((k7 q q1 q2 q3 q4).trans (f8 q q1 q2 q4)).trans (upd_ne q3), fun q hq => ((kk8 q hq).trans (f9 q (fun hm => hq ((show ∀ q ∈ [2, 5, 6, 8, 17, 71], q ∈ [2, 5, 6, 8, 15, 16, 17, 71] by decide) q hm)))).trans (qo q (nm_ne hq (by decide)) (nm_ne hq (by decide))), fun q hq => (k9 q hq).trans (f10 q hq)⟩

