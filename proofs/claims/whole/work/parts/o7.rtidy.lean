/-! the copies take the place of what was -/
theorem r_t528 {n : Nat} {i : Nat → Int32} {j : Nat → Int64} {K : Nat} {v3 : Int64} (h19 : i 19 = nI K) (hK : K ≤ 120000) : ∀ (m k f : Nat) (a : Nat → Nat → Int32) (b : Nat → Nat → Int64), k + m = K → m < f → ∃ a' b', m_Model_tidy_b528 n f i j a b v3 (nI k) = some (i, j, a', b', v3) ∧ (∀ q, q ≠ 7 → a' q = a q) ∧ (∀ q, q ≠ 9 → b' q = b q) ∧ (∀ x, x < k → a' 7 x = a 7 x ∧ b' 9 x = b 9 x) ∧ ∀ x, k ≤ x → x < K → a' 7 x = 0 ∧ b' 9 x = 3 := by
  intro m
  induction m with
  | zero =>
    intro k f a b hk hf
    obtain ⟨f, rfl⟩ : ∃ f', f = f' + 1 := ⟨f - 1, by omega⟩
    rw [m_Model_tidy_b528, h19, ile_p (by omega)]
    exact ⟨a, b, rfl, fun _ _ => rfl, fun _ _ => rfl, fun _ _ => ⟨rfl, rfl⟩, fun x h1 h2 => by omega⟩
  | succ m ih =>
    intro k f a b hk hf
    obtain ⟨f, rfl⟩ : ∃ f', f = f' + 1 := ⟨f - 1, by omega⟩
    rw [m_Model_tidy_b528, h19, ile_n (by omega), ck_n (by omega), cl_n (by omega), ob1_s, ck_n (by omega), ob1_s, ob1_s, show nI k + (1 : Int32) = nI (k + 1) from nI_add k 1]
    obtain ⟨a', b', e1, e2, e3, e4, e5⟩ := ih (k + 1) f (sv a 7 k 0) (svl b 9 k 3) (by omega) (by omega)
    refine ⟨a', b', e1, fun q hq => (e2 q hq).trans (sv_row hq), fun q hq => (e3 q hq).trans (svl_row hq), fun x hx => ⟨by rw [(e4 x (by omega)).1, sv_ne (by omega)], by rw [(e4 x (by omega)).2, svl_ne (by omega)]⟩, fun x h1 h2 => ?_⟩
    rcases (by omega : x = k ∨ k + 1 ≤ x) with rfl | h9
    · rw [(e4 x (by omega)).1, (e4 x (by omega)).2, sv_at, svl_at]; exact ⟨rfl, rfl⟩
    · exact e5 x h9 h2
/-- the sizes of lists -/
theorem r_t340 {n : Nat} {i : Nat → Int32} {j : Nat → Int64} {b : Nat → Nat → Int64} {Q : Nat} {v3 : Int64} (h70 : i 70 = nI Q) (hQ : Q ≤ 90000) : ∀ (m k f : Nat) (a : Nat → Nat → Int32), (∀ x, x < Q → ∃ l, l < 90000 ∧ a 71 x = nI l) → k + m = Q → m < f → ∃ a' f', m_Model_tidy_b340 n f i j a b v3 (nI k) = m_Model_tidy_b340 n (f' + 1) i j a' b v3 (nI Q) ∧ (∀ q, q ≠ 72 → a' q = a q) ∧ (∀ x, x < k → a' 72 x = a 72 x) ∧ ∀ x, k ≤ x → x < Q → a' 72 x = a 14 (a 71 x).toNatClampNeg := by
  intro m
  induction m with
  | zero =>
    intro k f a h71 hk hf
    obtain ⟨f, rfl⟩ : ∃ f', f = f' + 1 := ⟨f - 1, by omega⟩
    have : k = Q := by omega
    subst this
    exact ⟨a, f, rfl, fun _ _ => rfl, fun _ _ => rfl, fun x h1 h2 => by omega⟩
  | succ m ih =>
    intro k f a h71 hk hf
    obtain ⟨f, rfl⟩ : ∃ f', f = f' + 1 := ⟨f - 1, by omega⟩
    obtain ⟨l, l1, l2⟩ := h71 k (by omega)
    obtain ⟨a', f', e1, e2, e3, e4⟩ := ih (k + 1) f (sv a 72 k (a 14 l)) (fun x hx => by rw [sv_row (by decide)]; exact h71 x hx) (by omega) (by omega)
    refine ⟨a', f', ?_, fun q hq => (e2 q hq).trans (sv_row hq), fun x hx => by rw [e3 x (by omega), sv_ne (by omega)], fun x h1 h2 => ?_⟩
    · rw [m_Model_tidy_b340, h70, ile_n (by omega), ck_n (by omega), cl_n (by omega), l2, ck_n (by omega), ck_n (by omega), cl_n (by omega), ob1_s, ob1_s, show nI k + (1 : Int32) = nI (k + 1) from nI_add k 1]
      exact e1
    · rcases (by omega : x = k ∨ k + 1 ≤ x) with rfl | h9
      · rw [e3 x (by omega), sv_at, l2, cl_n (by omega)]
      · rw [e4 x h9 h2, sv_row (by decide), sv_row (by decide)]
def tdA : List Nat := [1, 2, 3, 4, 5, 6, 7, 8, 12, 13, 14, 15, 16, 17, 29, 31, 34, 71, 72]
/-- the copies take their places -/
theorem r_back9 {n f : Nat} {i : Nat → Int32} {j : Nat → Int64} {a : Nat → Nat → Int32} {b : Nat → Nat → Int64} {W L Q C : Nat} {v3 : Int64} (hn : 120001 ≤ n) (h67 : i 67 = nI W) (h68 : i 68 = nI L) (h69 : i 69 = nI C) (h70 : i 70 = nI Q) (hb : W ≤ 120000 ∧ L ≤ 300000 ∧ Q ≤ 90000 ∧ C ≤ 90000) (h2 : ∀ k, k < L → ∃ c, c < 128 ∧ a 2 k = nI c) : ∃ i' a' b', m_Model_tidy_b340 n (f + 1) i j a b v3 (nI Q) = some (i', j, a', b', v3) ∧ rB i' (W, L, Q, C) ∧ (∀ q, q ∉ [18, 19, 20, 21] → i' q = i q) ∧ (∀ k, k < Q → a' 14 k = a 72 k ∧ a' 12 k = a 15 k ∧ a' 13 k = a 16 k) ∧ (∀ k, k < W → a' 3 k = a 5 k ∧ a' 4 k = a 6 k ∧ a' 7 k = 0 ∧ b' 9 k = 3) ∧ (∀ k, k < L → a' 1 k = a 2 k) ∧ (∀ k, k < C → b' 10 k = b 11 k) ∧ (∀ q, q ∉ [1, 3, 4, 7, 12, 13, 14] → a' q = a q) ∧ (∀ q, q ≠ 9 → q ≠ 10 → b' q = b q) := by
  rw [m_Model_tidy_b340, h70, ile_p (by omega), h69, h68, h67, show (0 : Int32) = nI 0 from rfl]
  rw [cy_n (by omega), cl_n (by omega), cl_n (by omega), cl_n (by omega), cl_n (by omega), cl_n (by omega), ob1_s]
  obtain ⟨a1, ea1⟩ : ∃ a1, a1 = updA a 14 (va_cpy (a 72) (a 14) 0 0 Q) := ⟨_, rfl⟩
  rw [← ea1, cy_n (by omega), ob1_s]
  obtain ⟨a2, ea2⟩ : ∃ a2, a2 = updA a1 12 (va_cpy (a1 15) (a1 12) 0 0 Q) := ⟨_, rfl⟩
  rw [← ea2, cy_n (by omega), ob1_s]
  obtain ⟨a3, ea3⟩ : ∃ a3, a3 = updA a2 13 (va_cpy (a2 16) (a2 13) 0 0 Q) := ⟨_, rfl⟩
  rw [← ea3, cy_n (by omega), ob1_s]
  obtain ⟨b1, eb1⟩ : ∃ b1, b1 = updB b 10 (va_cpy (b 11) (b 10) 0 0 C) := ⟨_, rfl⟩
  rw [← eb1, cy_n (by omega), ob1_s]
  obtain ⟨a4, ea4⟩ : ∃ a4, a4 = updA a3 3 (va_cpy (a3 5) (a3 3) 0 0 W) := ⟨_, rfl⟩
  rw [← ea4, cy_n (by omega), ob1_s]
  obtain ⟨a5, ea5⟩ : ∃ a5, a5 = updA a4 4 (va_cpy (a4 6) (a4 4) 0 0 W) := ⟨_, rfl⟩
  have r1 : ∀ q, q ≠ 14 → a1 q = a q := fun q hq => by rw [ea1]; exact updA_ne hq
  have r2 : ∀ q, q ≠ 12 → a2 q = a1 q := fun q hq => by rw [ea2]; exact updA_ne hq
  have r3 : ∀ q, q ≠ 13 → a3 q = a2 q := fun q hq => by rw [ea3]; exact updA_ne hq
  have r4 : ∀ q, q ≠ 3 → a4 q = a3 q := fun q hq => by rw [ea4]; exact updA_ne hq
  have r5 : ∀ q, q ≠ 4 → a5 q = a4 q := fun q hq => by rw [ea5]; exact updA_ne hq
  have e52 : a5 2 = a 2 := by rw [r5 2 (by decide), r4 2 (by decide), r3 2 (by decide), r2 2 (by decide), r1 2 (by decide)]
  rw [← ea5, cy_n (by omega), cyb_ok (by omega) (by omega) (fun x hx => by rw [e52, Nat.zero_add]; exact h2 x hx), ob1_s]
  obtain ⟨a6, ea6⟩ : ∃ a6, a6 = updA a5 1 (va_cpy (a5 2) (a5 1) 0 0 L) := ⟨_, rfl⟩
  have r6 : ∀ q, q ≠ 1 → a6 q = a5 q := fun q hq => by rw [ea6]; exact updA_ne hq
  rw [← ea6, ob1_s, ob1_s, ob1_s, ob1_s, ob1_s, ob1_s, ob1_s, ob1_s, upd_ne (show 68 ≠ 19 by decide), upd_ne (show 69 ≠ 18 by decide), upd_ne (show 69 ≠ 19 by decide), upd_ne (show 70 ≠ 20 by decide), upd_ne (show 70 ≠ 18 by decide), upd_ne (show 70 ≠ 19 by decide), h68, h69, h70]
  obtain ⟨i1, ei1⟩ : ∃ i1, i1 = upd (upd (upd (upd i 19 (nI W)) 18 (nI L)) 20 (nI C)) 21 (nI Q) := ⟨_, rfl⟩
  rw [← ei1]
  have h19 : i1 19 = nI W := by rw [ei1, upd_ne (by decide), upd_ne (by decide), upd_ne (by decide), upd_at]
  have h18 : i1 18 = nI L := by rw [ei1, upd_ne (by decide), upd_ne (by decide), upd_at]
  have h20 : i1 20 = nI C := by rw [ei1, upd_ne (by decide), upd_at]
  have h21 : i1 21 = nI Q := by rw [ei1, upd_at]
  obtain ⟨a', b', e1, e2, e3, e4, e5⟩ := r_t528 (n := n) (j := j) (v3 := v3) h19 hb.1 W 0 n a6 b1 (by omega) (by omega)
  refine ⟨i1, a', b', e1, ⟨h19, h18, h21, h20, hb.1, hb.2.1, hb.2.2.1, hb.2.2.2⟩, fun q hq => ?_, fun k hk => ⟨?_, ?_, ?_⟩, fun k hk => ⟨?_, ?_, (e5 k (by omega) hk).1, (e5 k (by omega) hk).2⟩, fun k hk => ?_, fun k hk => ?_, fun q hq => ?_, fun q q1 q2 => ?_⟩
  · rw [ei1, upd_ne (nm_ne hq (by decide)), upd_ne (nm_ne hq (by decide)), upd_ne (nm_ne hq (by decide)), upd_ne (nm_ne hq (by decide))]
  · rw [e2 14 (by decide), r6 14 (by decide), r5 14 (by decide), r4 14 (by decide), r3 14 (by decide), r2 14 (by decide), ea1, updA_at, pk_cpy_in (Nat.zero_le _) (by omega), Nat.zero_add, Nat.sub_zero]
  · rw [e2 12 (by decide), r6 12 (by decide), r5 12 (by decide), r4 12 (by decide), r3 12 (by decide), ea2, updA_at, pk_cpy_in (Nat.zero_le _) (by omega), Nat.zero_add, Nat.sub_zero, r1 15 (by decide)]
  · rw [e2 13 (by decide), r6 13 (by decide), r5 13 (by decide), r4 13 (by decide), ea3, updA_at, pk_cpy_in (Nat.zero_le _) (by omega), Nat.zero_add, Nat.sub_zero, r2 16 (by decide), r1 16 (by decide)]
  · rw [e2 3 (by decide), r6 3 (by decide), r5 3 (by decide), ea4, updA_at, pk_cpy_in (Nat.zero_le _) (by omega), Nat.zero_add, Nat.sub_zero, r3 5 (by decide), r2 5 (by decide), r1 5 (by decide)]
  · rw [e2 4 (by decide), r6 4 (by decide), ea5, updA_at, pk_cpy_in (Nat.zero_le _) (by omega), Nat.zero_add, Nat.sub_zero, r4 6 (by decide), r3 6 (by decide), r2 6 (by decide), r1 6 (by decide)]
  · rw [e2 1 (by decide), ea6, updA_at, pk_cpy_in (Nat.zero_le _) (by omega), Nat.zero_add, Nat.sub_zero, e52]
  · rw [e3 10 (by decide), eb1, updB_same, pk_cpy_in (Nat.zero_le _) (by omega), Nat.zero_add, Nat.sub_zero]
  · rw [e2 q (nm_ne hq (by decide)), r6 q (nm_ne hq (by decide)), r5 q (nm_ne hq (by decide)), r4 q (nm_ne hq (by decide)), r3 q (nm_ne hq (by decide)), r2 q (nm_ne hq (by decide)), r1 q (nm_ne hq (by decide))]
  · rw [e3 q q1, eb1]
    exact if_neg q2
/-- the rows after all -/
def FIN9 (a : Nat → Nat → Int32) (b : Nat → Nat → Int64) (a' : Nat → Nat → Int32) (b' : Nat → Nat → Int64) (W L Q C : Nat) : Prop := (∀ k, k < Q → a' 14 k = a 14 (a 71 k).toNatClampNeg ∧ a' 12 k = a 15 k ∧ a' 13 k = a 16 k) ∧ (∀ k, k < W → a' 3 k = a 5 k ∧ a' 4 k = a 6 k ∧ a' 7 k = 0 ∧ b' 9 k = 3) ∧ (∀ k, k < L → a' 1 k = a 2 k) ∧ (∀ k, k < C → b' 10 k = b 11 k)
theorem rW_mvd {a0 : Nat → Nat → Int32} {b0 : Nat → Nat → Int64} {i : Nat → Int32} {a a' : Nat → Nat → Int32} {b b' : Nat → Nat → Int64} {B : RB4} {W L Q C x y : Nat} {l : List Nat} (hf : FIN9 a b a' b' W L Q C) (hb : W ≤ 120000 ∧ L ≤ 300000) (hy : y < W) (hc : wcp a0 a L x y) (hw : rW a0 B x l) : rW a' (W, L, Q, C) y l := by
  obtain ⟨r1, r2, r3, r4, r5, r6, r7, p, r8, r9, r10⟩ := hw
  obtain ⟨p2, q, s, e0, e1, e2, e3, e4, e5, e6, e7, e8⟩ := hc
  have hs : s = l.length := by rw [e2] at r7; exact (nI_eq (by omega) (by omega)).mp r7
  have hp : p2 = p := (nI_eq (by omega) (by omega)).mp (e1.symm.trans r8)
  subst hs hp
  have f2 := hf.2.1 y hy
  refine ⟨hy, hb.1, hb.2, r4, r5, r6, by rw [f2.2.1]; exact e6, q, by rw [f2.1]; exact e5, e7, fun k hk => ?_⟩
  rw [hf.2.2.1 _ (by omega), e8 k hk]
  exact r10 k hk
theorem rW_mv8 {a0 : Nat → Nat → Int32} {b0 : Nat → Nat → Int64} {i : Nat → Int32} {a a' : Nat → Nat → Int32} {b b' : Nat → Nat → Int64} {B : RB4} {W L Q C x y : Nat} {l : List Nat} (h : MI a0 b0 B i a b W L Q C C []) (hf : FIN9 a b a' b' W L Q C) (hb : W ≤ 120000 ∧ L ≤ 300000) (h8 : a 8 x = nI y) (hy : y < 200000) (hw : rW a0 B x l) : rW a' (W, L, Q, C) y l := by
  rcases h.1.1 x hw.1 with e | ⟨z, z1, z2, z3⟩
  · rw [h8] at e; exact absurd e (nI_m1 (by omega))
  · rw [h8] at z2
    have := (nI_eq (by omega) (by omega)).mp z2
    subst this
    exact rW_mvd (i := i) (b0 := b0) hf hb z1 z3 hw
theorem mv_no {n : Nat} {z : Int} {l : Nat} : vL l ≠ vN z ∧ vW l ≠ vN z := by
  refine ⟨fun e => ?_, fun e => ?_⟩
  · have h1 := (r_isL 0 l).1
    rw [e, (r_isN 0 z).1] at h1
    cases h1
  · have h1 := (r_isW 0 l).1
    rw [e, (r_isN 0 z).1] at h1
    cases h1
theorem mv_wl {x l : Nat} : vW x ≠ vL l := fun e => by
  have h1 := (r_isW 0 x).2.1
  rw [e, (r_isL 0 l).2.1] at h1
  cases h1
theorem vL_inj9 {x y : Nat} (hx : x < 1000000) (hy : y < 1000000) (h : vL x = vL y) : x = y := by
  have := (v_ne (x := 4 * (x : Int) + 2) (y := 4 * (y : Int) + 2) (by omega) (by omega)).mp h
  omega
theorem vW_inj9 {x y : Nat} (hx : x < 1000000) (hy : y < 1000000) (h : vW x = vW y) : x = y := by
  have := (v_ne (x := 4 * (x : Int) + 1) (y := 4 * (y : Int) + 1) (by omega) (by omega)).mp h
  omega
/-- a moved value is the same tree -/
theorem rV_mvd {a0 : Nat → Nat → Int32} {b0 : Nat → Nat → Int64} {i : Nat → Int32} {a a' : Nat → Nat → Int32} {b b' : Nat → Nat → Int64} {B : RB4} {W L Q C : Nat} (h : MI a0 b0 B i a b W L Q C C []) (hf : FIN9 a b a' b' W L Q C) (hb : W ≤ 120000 ∧ L ≤ 300000 ∧ Q ≤ 90000 ∧ C ≤ 90000) : ∀ (m : Nat) (t : Tr) (v v' : Int64), tNd t ≤ m → rV a0 b0 B t none v → mv a v v' → rV a' b' (W, L, Q, C) t none v' := by
  intro m
  induction m with
  | zero => intro t v v' hm hv _; have := (rV_nd hv).1; omega
  | succ m ih =>
    intro t v v' hm hv hmv
    rcases rV_cases hv with ⟨z, rfl, z1, z2, rfl⟩ | ⟨l, w, rfl, rfl, hrw⟩ | ⟨ms, l, p, rfl, rfl, ⟨r1, r2, r3, r4, r5, r6, r7, r8, r9, r10⟩, hmem⟩
    · rcases hmv with ⟨y, _, e2⟩ | ⟨x, y, e1, _⟩ | ⟨x, y, e1, _⟩
      · rw [e2]; exact rV_tN.mpr ⟨z1, z2, rfl⟩
      · exact absurd e1.symm (mv_no (n := 0)).2
      · exact absurd e1.symm (mv_no (n := 0)).1
    · have hwb : w < 120000 := by have := hrw.1; have := hrw.2.1; omega
      rcases hmv with ⟨y, e1, e2⟩ | ⟨x, y, e1, e2, e3, e4, e5⟩ | ⟨x, y, e1, _⟩
      · exact absurd e1 (mv_no (n := 0)).2
      · have hx := vW_inj9 (by omega) (by omega) e1
        subst hx
        exact rV_tW.mpr ⟨y, e2, rW_mv8 h hf ⟨hb.1, hb.2.1⟩ e5 e4 hrw⟩
      · exact absurd e1 mv_wl
    · rcases hmv with ⟨y, e1, e2⟩ | ⟨x, y, e1, e2, e3, e4, e5⟩ | ⟨x, k, e1, e2, e3, e4, e5⟩
      · exact absurd e1 (mv_no (n := 0)).1
      · exact absurd e1.symm mv_wl
      · have hx := vL_inj9 (by omega) (by omega) e1
        subst hx
        obtain ⟨g1, g2, g3⟩ := h.2.1
        rcases g1 l r1 with e | ⟨k2, c1, c2, c3⟩
        · rw [e5] at e; exact absurd e (nI_m1 (by omega))
        rw [e5] at c2
        have hk := (nI_eq (by omega) (by simp only [List.length_nil] at c1; omega)).mp c2
        subst hk
        have hkQ : k < Q := by simpa using c1
        obtain ⟨l2, c, cnt, p2, f1, f2, f3, f4, f5, f6, f7, ⟨f8, f8p, f8c⟩, f9⟩ := g3 k hkQ
        have hl2 : l2 = l := by rw [c3] at f2; exact ((nI_eq (by omega) (by omega)).mp f2).symm
        subst hl2
        have hp : p2 = p := (nI_eq (by omega) (by omega)).mp (f4.symm.trans r4)
        have hcn : cnt = ms.length := (nI_eq (by omega) (by omega)).mp (f5.symm.trans r5)
        subst hp hcn
        have hk9 := hf.1 k hkQ
        have o14 : a 14 = a0 14 := h.2.2.1.2.2.2.2.2.1
        refine rV_tL.mpr ⟨k, c, e2, ⟨hkQ, hb.2.2.1, hb.2.2.2, by rw [hk9.2.1]; exact f6, by rw [hk9.2.2]; exact f7, by rw [hk9.1, c3, cl_n (by omega), o14]; exact r6, f8, r8, r9, r10⟩, fun q hq => ?_⟩
        have hq9 : b' 10 (c + q) = b 11 (c + q) := hf.2.2.2 _ (by omega)
        rw [hq9]
        exact ih ms[q] _ _ (by have := tNd_mem hq; omega) (hmem q hq) (f9 q hq)
theorem phi_sm {a : Nat → Nat → Int32} {b : Nat → Nat → Int64} : ∀ n, (∀ x, x < n → b 9 x = 3 ∧ 1 ≤ (a 4 x).toNatClampNeg) → phi a b n = sm6 (a 4) n := by
  intro n
  induction n with
  | zero => intro _; rfl
  | succ n ih =>
    intro h
    obtain ⟨h1, h2⟩ := h n (by omega)
    rw [phi, sm6, ih (fun x hx => h x (by omega)), if_pos h1]
    omega
theorem MI_0 {i : Nat → Int32} {a0 a : Nat → Nat → Int32} {b : Nat → Nat → Int64} {B : RB4} (h8 : ∀ x, x < B.1 → a 8 x = -1) (h17 : ∀ x, x < B.2.2.1 → a 17 x = -1) (ho : oldR a0 b a b) (hi : i 67 = 0 ∧ i 68 = 0 ∧ i 69 = 0 ∧ i 70 = 0) : MI a0 b B i a b 0 0 0 0 0 [] := ⟨⟨fun x hx => Or.inl (h8 x hx), fun y hy => absurd hy (Nat.not_lt_zero _), rfl, fun k hk => absurd hk (Nat.not_lt_zero _)⟩, ⟨fun x hx => Or.inl (h17 x hx), fun k hk => absurd hk (Nat.not_lt_zero _), fun k hk => absurd hk (Nat.not_lt_zero _)⟩, ho, hi.1, hi.2.1, hi.2.2.1, hi.2.2.2⟩
/-- the reference has tidied up -/
theorem r_tidy {n : Nat} {i : Nat → Int32} {j : Nat → Int64} {a : Nat → Nat → Int32} {b : Nat → Nat → Int64} {B : RB4} {gl : List (Nm × Tr)} {ps : List Proc} {tl : Tr} {v : Int64} {T1 T2 : Nat} (hn : 200000 ≤ n) (h1 : rB i B) (h2 : ∀ x, x < B.1 → ∃ l, rK a b B x l) (h3 : rGl i a b B gl) (h4 : rPr i a b B ps) (hv : rV a b B tl none v) (hT : T1 ≤ 110000 ∧ T2 < 90000) (b1 : pzP ps + gzG gl + tSz tl ≤ T1) (b2 : pmP ps + gmG gl + tNd tl ≤ T2) : ∃ i' a' b' B' v', m_Model_tidy n i j a b v = some (i', j, a', b', v') ∧ rB i' B' ∧ rC a' b' B' ∧ (∀ x, x < B'.1 → b' 9 x = 3) ∧ rGl i' a' b' B' gl ∧ rPr i' a' b' B' ps ∧ rV a' b' B' tl none v' ∧ (B'.2.1 ≤ T1 ∧ B'.2.2.1 ≤ T2 ∧ B'.2.2.2 ≤ T2) ∧ (∀ q, q ∉ [18, 19, 20, 21, 67, 68, 69, 70] → i' q = i q) ∧ (∀ q, q ∉ tdA → a' q = a q) ∧ (∀ q, q ∉ [9, 10, 11, 32, 35] → b' q = b q) := by
  have hB : B.1 ≤ 120000 ∧ B.2.1 ≤ 300000 ∧ B.2.2.1 ≤ 90000 ∧ B.2.2.2 ≤ 90000 := h1.2.2.2.2
  obtain ⟨g1, g2, g3⟩ := h3
  obtain ⟨p1, p2, p3⟩ := h4
  unfold m_Model_tidy
  obtain ⟨a1, e1, e2, e3, e4⟩ := r_t2 (n := n) (j := j) (b := b) (v1 := v) h1.1 hB.1 B.1 0 n a (by omega) (by omega)
  rw [show (0 : Int32) = nI 0 from rfl, e1]
  obtain ⟨a2, f1, f2, f3, f4⟩ := r_t25 (n := n) (j := j) (b := b) (v1 := v) h1.2.2.1 hB.2.2.1 B.2.2.1 0 n a1 (by omega) (by omega)
  rw [f1]
  obtain ⟨i2, ei2⟩ : ∃ i2, i2 = upd (upd (upd (upd i 67 0) 68 0) 69 0) 70 0 := ⟨_, rfl⟩
  rw [← ei2]
  have hi2 : ∀ q, q ∉ [67, 68, 69, 70] → i2 q = i q := fun q hq => by rw [ei2, upd_ne (nm_ne hq (by decide)), upd_ne (nm_ne hq (by decide)), upd_ne (nm_ne hq (by decide)), upd_ne (nm_ne hq (by decide))]
  have ha2 : ∀ q, q ≠ 8 → q ≠ 17 → a2 q = a q := fun q q1 q2 => (f2 q q2).trans (e2 q q1)
  have hM0 : MI a b B i2 a2 b 0 0 0 0 0 [] := MI_0 (fun x hx => by rw [f2 8 (by decide)]; exact e4 x (Nat.zero_le _) hx) (fun x hx => f4 x (Nat.zero_le _) hx) ⟨ha2 1 (by decide) (by decide), ha2 3 (by decide) (by decide), ha2 4 (by decide) (by decide), ha2 12 (by decide) (by decide), ha2 13 (by decide) (by decide), ha2 14 (by decide) (by decide), rfl⟩ ⟨by rw [ei2]; rfl, by rw [ei2]; rfl, by rw [ei2]; rfl, by rw [ei2]; rfl⟩
  have z1 : qz ([] : List Tr) = 0 := rfl
  have z2 : qn ([] : List Tr) = 0 := rfl
  obtain ⟨i3, a3, b3, W3, L3, qs3, c1, c2, c3, c4, c5, c6, c7, c8, c9, c10, c11, c12⟩ := r_t68 (n := n) (j := j) (v1 := v) (T1 := T1 - gzG gl - tSz tl) (T2 := T2 - gmG gl - tNd tl) (by omega) p2 (by omega) ps 0 n i2 a2 b 0 0 [] (by rw [hi2 33 (by decide)]; exact p1) (by omega) (by omega) hM0 (fun t ht => absurd ht List.not_mem_nil) (fun q hq => by
    obtain ⟨⟨x, x1, x2⟩, x3, x4, x5, x6⟩ := p3 q hq
    rw [Nat.zero_add, ha2 29 (by decide) (by decide), ha2 30 (by decide) (by decide), ha2 31 (by decide) (by decide)]
    exact ⟨⟨x, x1, x2⟩, x3, x4, x5, x6, rfl⟩) (by omega) (by simp only [List.length_nil]; omega)
  rw [c1]
  have hi3 : ∀ q, q ∉ [67, 68, 69, 70] → i3 q = i q := fun q hq => (c8 q (fun hm => hq ((show ∀ q ∈ tiI, q ∈ [67, 68, 69, 70] by decide) q hm))).trans (hi2 q hq)
  obtain ⟨i4, a4, b4, W4, L4, qs4, v3, d1, d2, d3, d4, d5, d6, d7, d8, d9, d10, d11, d12⟩ := r_t162 (n := n) (j := j) (v1 := v) (T1 := T1) (T2 := T2) g2 hT hv gl 0 n i3 a3 b3 W3 L3 qs3 (by rw [hi3 36 (by decide)]; exact g1) (by omega) (by omega) c2 c3 (fun q hq => by
    obtain ⟨⟨x, x1, x2⟩, x6⟩ := g3 q hq
    rw [Nat.zero_add, c9 34 (by decide), ha2 34 (by decide) (by decide), c12 35 (by decide)]
    exact ⟨⟨x, x1, x2⟩, x6, rfl⟩) (by omega) (by omega)
  rw [d1]
  obtain ⟨i5, a5, b5, W, L, Q, C, k1, k2, k3, k4, k5, k6, k7, kk8, k9⟩ := r_t217 (n := n) (j := j) (v3 := v3) (S1 := T1) (S2 := T2) (S3 := T2) (by omega) (by omega) T2 n i4 a4 b4 W4 L4 0 0 qs4 (by omega) (by omega) d2 d3 d6 (by omega) (by omega)
  rw [k1]
  have hWL := MIw_W (b0 := b) k2.1
  obtain ⟨k21, ⟨k22, k23, k24⟩, k25, k267, k268, k269, k270⟩ := id k2
  have k270 : i5 70 = nI Q := k270
  obtain ⟨a6, f6, m1, m2, m3, m4⟩ := r_t340 (n := n) (j := j) (b := b5) (v3 := v3) k270 (by omega) Q 0 n a5 (fun x hx => by
    obtain ⟨l, c, cnt, p, y1, y2, _⟩ := k24 x hx
    exact ⟨l, by omega, y2⟩) (by omega) (by omega)
  rw [m1]
  have m2' : a6 2 = a5 2 := m2 2 (by decide)
  obtain ⟨i7, a7, b7, n1, n2, n3, n4, n5, n6, n7, n8, n9⟩ := r_back9 (n := n) (f := f6) (j := j) (a := a6) (b := b5) (v3 := v3) (by omega) k267 k268 k269 k270 ⟨by omega, by omega, by omega, by omega⟩ (fun k hk => by rw [m2']; exact k21.2.2.2 k hk)
  have hfin : FIN9 a5 b5 a7 b7 W L Q C := ⟨fun k hk => ⟨by rw [(n4 k hk).1]; exact m4 k (Nat.zero_le _) hk, by rw [(n4 k hk).2.1, m2 15 (by decide)], by rw [(n4 k hk).2.2, m2 16 (by decide)]⟩, fun k hk => ⟨by rw [(n5 k hk).1, m2 5 (by decide)], by rw [(n5 k hk).2.1, m2 6 (by decide)], (n5 k hk).2.2.1, (n5 k hk).2.2.2⟩, fun k hk => by rw [n6 k hk, m2'], n7⟩
  have hb9 : W ≤ 120000 ∧ L ≤ 300000 ∧ Q ≤ 90000 ∧ C ≤ 90000 := ⟨by omega, by omega, by omega, by omega⟩
  have a7o : ∀ q, q ∉ [1, 3, 4, 7, 12, 13, 14, 2, 5, 6, 8, 15, 16, 17, 71, 72] → a7 q = a4 q := fun q hq => ((n8 q (fun hm => hq ((show ∀ q ∈ [1, 3, 4, 7, 12, 13, 14], q ∈ [1, 3, 4, 7, 12, 13, 14, 2, 5, 6, 8, 15, 16, 17, 71, 72] by decide) q hm))).trans (m2 q (nm_ne hq (by decide)))).trans (kk8 q (fun hm => hq ((show ∀ q ∈ [2, 5, 6, 8, 15, 16, 17, 71], q ∈ [1, 3, 4, 7, 12, 13, 14, 2, 5, 6, 8, 15, 16, 17, 71, 72] by decide) q hm)))
  have b7o : ∀ q, q ≠ 9 → q ≠ 10 → q ≠ 11 → b7 q = b4 q := fun q q1 q2 q3 => (n9 q q1 q2).trans (k9 q q3)
  have i7o : ∀ q, q ∉ [18, 19, 20, 21, 67, 68, 69, 70] → i7 q = i q := fun q hq => (((n3 q (fun hm => hq ((show ∀ q ∈ [18, 19, 20, 21], q ∈ [18, 19, 20, 21, 67, 68, 69, 70] by decide) q hm))).trans (k7 q (nm_ne hq (by decide)) (nm_ne hq (by decide)) (nm_ne hq (by decide)) (nm_ne hq (by decide)))).trans (d9 q (fun hm => hq ((show ∀ q ∈ tiI, q ∈ [18, 19, 20, 21, 67, 68, 69, 70] by decide) q hm)))).trans (hi3 q (fun hm => hq ((show ∀ q ∈ [67, 68, 69, 70], q ∈ [18, 19, 20, 21, 67, 68, 69, 70] by decide) q hm)))
  have wn : ∀ {l : List Nat} {v : Int32}, WN a B a4 l v → ∃ y, v = nI y ∧ rW a7 (W, L, Q, C) y l := by
    intro l v hw
    obtain ⟨x, y, w1, w2, w3, w4⟩ := WN_ext hw k6
    exact ⟨y, w4, rW_mv8 k2 hfin ⟨hb9.1, hb9.2.1⟩ w3 w2 w1⟩
  have vn : ∀ {t : Tr} {v v' : Int64}, rV a b B t none v → mv a4 v v' → rV a7 b7 (W, L, Q, C) t none v' := fun {t} {v} {v'} h9 h8 => rV_mvd k2 hfin hb9 (tNd t) t v v' (Nat.le_refl _) h9 (mv_ext h8 k6)
  refine ⟨i7, a7, b7, (W, L, Q, C), v3, n1, n2, ⟨fun y hy => ?_, ?_⟩, fun x hx => (n5 x hx).2.2.2, ⟨by rw [i7o 36 (by decide)]; exact g1, g2, fun m hm => ?_⟩, ⟨by rw [i7o 33 (by decide)]; exact p1, p2, fun m hm => ?_⟩, vn hv d5, ⟨k3, k4, k5⟩, i7o, fun q hq => ?_, fun q hq => ?_⟩
  · obtain ⟨x, x1, x2⟩ := k21.2.1 y hy
    obtain ⟨l, hl⟩ := h2 x x1
    exact ⟨l, rW_mvd (i := i) (b0 := b) hfin ⟨hb9.1, hb9.2.1⟩ hy x2 hl.1, Or.inl (n5 y hy).2.2.1, Or.inl (n5 y hy).2.2.2⟩
  · show phi a7 b7 W ≤ L
    rw [phi_sm W (fun y hy => ⟨(n5 y hy).2.2.2, by
      obtain ⟨x, x1, p, q, s, y0, y1, y2, y3, y4, y5, y6, _⟩ := k21.2.1 y hy
      rw [(hfin.2.1 y hy).2.1, y6, cl_n (by omega)]
      exact y3⟩), sm6_congr (f := a5 6) W (fun y hy => (hfin.2.1 y hy).2.1), k21.2.2.1]
    exact Nat.le_refl _
  · obtain ⟨u1, u2⟩ := d4 m hm
    rw [Nat.zero_add] at u1 u2
    rw [a7o 34 (by decide), b7o 35 (by decide) (by decide) (by decide)]
    exact ⟨wn u1, vn (g3 m hm).2 u2⟩
  · have hp5 := (p3 m hm).2.2.1
    have hpn := PN1_ext (a' := a4) (b' := b4) (c4 m hm) d8 hp5 (by rw [d10 29 (by decide)]) (fun k _ => by rw [d10 31 (by decide)]) (by rw [d12 32 (by decide)])
    rw [Nat.zero_add] at hpn
    obtain ⟨u1, u2, u3⟩ := hpn
    rw [a7o 29 (by decide), a7o 30 (by decide), a7o 31 (by decide), b7o 32 (by decide) (by decide) (by decide), d10 30 (by decide), c9 30 (by decide), ha2 30 (by decide) (by decide)]
    exact ⟨wn u1, (p3 m hm).2.1, hp5, fun k hk => wn (u2 k hk), vn (p3 m hm).2.2.2.2 u3⟩
  · rw [a7o q (fun hm => hq ((show ∀ q ∈ [1, 3, 4, 7, 12, 13, 14, 2, 5, 6, 8, 15, 16, 17, 71, 72], q ∈ tdA by decide) q hm)), d10 q (fun hm => hq ((show ∀ q ∈ [2, 5, 6, 8, 17, 34, 71], q ∈ tdA by decide) q hm)), c9 q (fun hm => hq ((show ∀ q ∈ [2, 5, 6, 8, 17, 29, 31, 71], q ∈ tdA by decide) q hm)), ha2 q (nm_ne hq (by decide)) (nm_ne hq (by decide))]
  · rw [b7o q (nm_ne hq (by decide)) (nm_ne hq (by decide)) (nm_ne hq (by decide)), d12 q (nm_ne hq (by decide)), c12 q (nm_ne hq (by decide))]

