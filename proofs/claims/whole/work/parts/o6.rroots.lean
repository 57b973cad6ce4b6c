/-! what lives is moved -/
theorem r_t2 {n : Nat} {i : Nat → Int32} {j : Nat → Int64} {b : Nat → Nat → Int64} {K : Nat} {v1 : Int64} (h19 : i 19 = nI K) (hK : K ≤ 120000) : ∀ (m k f : Nat) (a : Nat → Nat → Int32), k + m = K → m < f → ∃ a', m_Model_tidy_b2 n f i j a b v1 (nI k) = m_Model_tidy_b25 n n i j a' b v1 (nI 0) ∧ (∀ q, q ≠ 8 → a' q = a q) ∧ (∀ x, x < k → a' 8 x = a 8 x) ∧ ∀ x, k ≤ x → x < K → a' 8 x = -1 := by
  intro m
  induction m with
  | zero =>
    intro k f a hk hf
    obtain ⟨f, rfl⟩ : ∃ f', f = f' + 1 := ⟨f - 1, by omega⟩
    rw [m_Model_tidy_b2, h19, ile_p (by omega)]
    exact ⟨a, rfl, fun _ _ => rfl, fun _ _ => rfl, fun x h1 h2 => by omega⟩
  | succ m ih =>
    intro k f a hk hf
    obtain ⟨f, rfl⟩ : ∃ f', f = f' + 1 := ⟨f - 1, by omega⟩
    rw [m_Model_tidy_b2, h19, ile_n (by omega), ck_n (by omega), cl_n (by omega), ob1_s, ob1_s, show nI k + (1 : Int32) = nI (k + 1) from nI_add k 1]
    obtain ⟨a', e1, e2, e3, e4⟩ := ih (k + 1) f (sv a 8 k (-1)) (by omega) (by omega)
    refine ⟨a', e1, fun q hq => (e2 q hq).trans (sv_row hq), fun x hx => by rw [e3 x (by omega), sv_ne (by omega)], fun x h1 h2 => ?_⟩
    rcases (by omega : x = k ∨ k + 1 ≤ x) with rfl | h9
    · rw [e3 x (by omega), sv_at]
    · exact e4 x h9 h2
theorem r_t25 {n : Nat} {i : Nat → Int32} {j : Nat → Int64} {b : Nat → Nat → Int64} {K : Nat} {v1 : Int64} (h21 : i 21 = nI K) (hK : K ≤ 90000) : ∀ (m k f : Nat) (a : Nat → Nat → Int32), k + m = K → m < f → ∃ a', m_Model_tidy_b25 n f i j a b v1 (nI k) = m_Model_tidy_b68 n n (upd (upd (upd (upd i 67 0) 68 0) 69 0) 70 0) j a' b v1 (nI 0) ∧ (∀ q, q ≠ 17 → a' q = a q) ∧ (∀ x, x < k → a' 17 x = a 17 x) ∧ ∀ x, k ≤ x → x < K → a' 17 x = -1 := by
  intro m
  induction m with
  | zero =>
    intro k f a hk hf
    obtain ⟨f, rfl⟩ : ∃ f', f = f' + 1 := ⟨f - 1, by omega⟩
    rw [m_Model_tidy_b25, h21, ile_p (by omega), ob1_s, ob1_s, ob1_s, ob1_s]
    exact ⟨a, rfl, fun _ _ => rfl, fun _ _ => rfl, fun x h1 h2 => by omega⟩
  | succ m ih =>
    intro k f a hk hf
    obtain ⟨f, rfl⟩ : ∃ f', f = f' + 1 := ⟨f - 1, by omega⟩
    rw [m_Model_tidy_b25, h21, ile_n (by omega), ck_n (by omega), cl_n (by omega), ob1_s, ob1_s, show nI k + (1 : Int32) = nI (k + 1) from nI_add k 1]
    obtain ⟨a', e1, e2, e3, e4⟩ := ih (k + 1) f (sv a 17 k (-1)) (by omega) (by omega)
    refine ⟨a', e1, fun q hq => (e2 q hq).trans (sv_row hq), fun x hx => by rw [e3 x (by omega), sv_ne (by omega)], fun x h1 h2 => ?_⟩
    rcases (by omega : x = k ∨ k + 1 ≤ x) with rfl | h9
    · rw [e3 x (by omega), sv_at]
    · exact e4 x h9 h2
def miA : List Nat := [1, 2, 3, 4, 5, 6, 8, 12, 13, 14, 15, 16, 17, 71]
theorem MI_o {a0 : Nat → Nat → Int32} {b0 : Nat → Nat → Int64} {i i' : Nat → Int32} {a a' : Nat → Nat → Int32} {b b' : Nat → Nat → Int64} {B : RB4} {W L P C D : Nat} {qs : List Tr} (h : MI a0 b0 B i a b W L P C D qs) (ha : ∀ q, q ∈ miA → a' q = a q) (hb : b' 10 = b 10 ∧ b' 11 = b 11) (hi : i' 67 = i 67 ∧ i' 68 = i 68 ∧ i' 69 = i 69 ∧ i' 70 = i 70) : MI a0 b0 B i' a' b' W L P C D qs := by
  unfold MI MIw MIl wcp mv oldR at *
  rw [ha 1 (by decide), ha 2 (by decide), ha 3 (by decide), ha 4 (by decide), ha 5 (by decide), ha 6 (by decide), ha 8 (by decide), ha 12 (by decide), ha 13 (by decide), ha 14 (by decide), ha 15 (by decide), ha 16 (by decide), ha 17 (by decide), ha 71 (by decide), hb.1, hb.2, hi.1, hi.2.1, hi.2.2.1, hi.2.2.2]
  exact h
theorem MI_word {n : Nat} {i : Nat → Int32} {j : Nat → Int64} {a : Nat → Nat → Int32} {b : Nat → Nat → Int64} {a0 : Nat → Nat → Int32} {b0 : Nat → Nat → Int64} {B : RB4} {W L P C D x : Nat} {qs : List Tr} {l : List Nat} (h : MI a0 b0 B i a b W L P C D qs) (hw : rW a0 B x l) (hL : L + l.length ≤ 110000) : ∃ i' a' W' L' y, m_Model_moveWord n i j a b (nI x) = some (i', j, a', b, nI y) ∧ MI a0 b0 B i' a' b W' L' P C D qs ∧ a' 8 x = nI y ∧ y < 200000 ∧ ext a a' ∧ L' ≤ L + l.length ∧ (∀ q, q ≠ 67 → q ≠ 68 → i' q = i q) ∧ (∀ q, q ∉ [2, 5, 6, 8] → a' q = a q) := by
  obtain ⟨hw0, hl, ho, h67, h68, h69, h70⟩ := h
  obtain ⟨i', a', W', L', y, e1, e2, e3, e4, e5, e6, e7, e8, e9, e10, e11⟩ := r_moveWord (n := n) (j := j) hw0 ho h67 h68 hw hL
  have hW' := MIw_W (b0 := b0) e2
  have he : ext a a' := ⟨e11, fun x _ => by rw [e10 17 (by decide)]⟩
  obtain ⟨o1, o3, o4, o12, o13, o14, o10⟩ := ho
  exact ⟨i', a', W', L', y, e1, ⟨e2, MIl_word hl he (e10 17 (by decide)) (e10 71 (by decide)) (e10 15 (by decide)) (e10 16 (by decide)), ⟨(e10 1 (by decide)).trans o1, (e10 3 (by decide)).trans o3, (e10 4 (by decide)).trans o4, (e10 12 (by decide)).trans o12, (e10 13 (by decide)).trans o13, (e10 14 (by decide)).trans o14, o10⟩, e3, e4, (e9 69 (by decide) (by decide)).trans h69, (e9 70 (by decide) (by decide)).trans h70⟩, e5, by omega, he, e8, e9, e10⟩
/-- a word has its new number -/
def WN (a0 : Nat → Nat → Int32) (B : RB4) (a : Nat → Nat → Int32) (l : List Nat) (v : Int32) : Prop := ∃ x y, rW a0 B x l ∧ y < 200000 ∧ a 8 x = nI y ∧ v = nI y
theorem WN_ext {a0 a a' : Nat → Nat → Int32} {B : RB4} {l : List Nat} {v : Int32} (h : WN a0 B a l v) (he : ext a a') : WN a0 B a' l v := by
  obtain ⟨x, y, h1, h2, h3, h4⟩ := h
  exact ⟨x, y, h1, h2, by rw [he.1 x (by rw [h3]; exact nI_m1 (by omega)), h3], h4⟩
def tiI : List Nat := [67, 68, 70]
def lz (ins : List Nm) : Nat := (ins.map List.length).sum
theorem lz_c (l : Nm) (ins : List Nm) : lz (l :: ins) = l.length + lz ins := by unfold lz; rw [List.map_cons, List.sum_cons]
theorem r_t95 {n : Nat} {j : Nat → Int64} {a0 : Nat → Nat → Int32} {b0 : Nat → Nat → Int64} {B : RB4} {rc : (Nat → Int32) → (Nat → Int64) → (Nat → Nat → Int32) → (Nat → Nat → Int64) → Int64 → Int32 → Option ((Nat → Int32) × (Nat → Int64) × (Nat → Nat → Int32) × (Nat → Nat → Int64) × Int64)} {m T1 T2 : Nat} {body : Tr} {v1 : Int64} (hT : T1 ≤ 110000 ∧ T2 < 90000) (hm : m < 40) (hb0 : rV a0 b0 B body none (b0 32 m)) : ∀ (ins : List Nm) (k f : Nat) (i : Nat → Int32) (a : Nat → Nat → Int32) (b : Nat → Nat → Int64) (W L : Nat) (qs : List Tr), a 30 m = nI (k + ins.length) → k + ins.length ≤ 5 → ins.length < f → MI a0 b0 B i a b W L 0 0 0 qs → (∀ t ∈ qs, isL t = true) → (∀ q (h : q < ins.length), ∃ y, a 31 (5 * m + k + q) = nI y ∧ rW a0 B y (ins[q]'h)) → b 32 m = b0 32 m → L + lz ins + tSz body + qz qs ≤ T1 → qs.length + qn qs + tNd body ≤ T2 →
    ∃ i' a' b' W' L' qs', m_Model_tidy_b95 n rc f i j a b v1 (nI m) (nI k) = rc i' j a' b' v1 (nI (m + 1)) ∧ MI a0 b0 B i' a' b' W' L' 0 0 0 qs' ∧ (∀ t ∈ qs', isL t = true) ∧ (∀ q (h : q < ins.length), WN a0 B a' (ins[q]'h) (a' 31 (5 * m + k + q))) ∧ mv a' (b0 32 m) (b' 32 m) ∧ L' + qz qs' ≤ T1 ∧ qs'.length + qn qs' ≤ T2 ∧ ext a a' ∧ (∀ q, q ∉ tiI → i' q = i q) ∧ (∀ q, q ∉ [2, 5, 6, 8, 17, 31, 71] → a' q = a q) ∧ (∀ z, (z < 5 * m + k ∨ 5 * m + k + ins.length ≤ z) → a' 31 z = a 31 z) ∧ (∀ q, q ≠ 32 → b' q = b q) ∧ (∀ z, z ≠ m → b' 32 z = b 32 z) := by
  intro ins
  induction ins with
  | nil =>
    intro k f i a b W L qs h30 hk hf h hq hins h32 b1 b2
    obtain ⟨f, rfl⟩ : ∃ f', f = f' + 1 := ⟨f - 1, by omega⟩
    have hz : lz ([] : List Nm) = 0 := rfl
    rw [hz] at b1
    rw [m_Model_tidy_b95, ck_n (by omega), cl_n (by omega), h30, ile_p (by simp; omega), ck_n (by omega), h32]
    have hnd := rV_nd hb0
    obtain ⟨i1, a1, W1, L1, qs1, v', e1, e2, e3, e4, e5, e6, e7, e8⟩ := r_move (n := n) (j := j) h hb0 (by omega) (by omega)
    rw [e1, om_s, ck_n (by omega), ob1_s, ob1_s, show nI m + (1 : Int32) = nI (m + 1) from nI_add m 1]
    refine ⟨i1, a1, svl b 32 m v', W1, L1, qs1, rfl, MI_o e2 (fun _ _ => rfl) ⟨svl_row (by decide), svl_row (by decide)⟩ ⟨rfl, rfl, rfl, rfl⟩, ?_, fun q hq9 => absurd hq9 (Nat.not_lt_zero _), by rw [svl_at]; exact e3, ?_, ?_, e4, fun q hq9 => e5 q (nm_ne hq9 (by decide)) (nm_ne hq9 (by decide)) (nm_ne hq9 (by decide)), fun q hq9 => e6 q (fun hm9 => hq9 ((show ∀ q ∈ [2, 5, 6, 8, 17, 71], q ∈ [2, 5, 6, 8, 17, 31, 71] by decide) q hm9)), fun z _ => by rw [e6 31 (by decide)], fun q hq9 => svl_row hq9, fun z hz9 => svl_ne hz9⟩
    · rcases e8 with ⟨q1, _⟩ | ⟨q0, q1, _⟩
      · rw [q1]; exact hq
      · rw [q1]
        intro t ht
        rcases List.mem_append.mp ht with h9 | h9
        · exact hq t h9
        · rw [List.mem_singleton] at h9; rw [h9]; exact q0
    · rcases e8 with ⟨q1, q2⟩ | ⟨q0, q1, q2⟩
      · rw [q1]; omega
      · rw [q1, qz_s]; omega
    · rcases e8 with ⟨q1, q2⟩ | ⟨q0, q1, q2⟩
      · rw [q1]; omega
      · rw [q1, qn_s, List.length_append, List.length_singleton]; omega
  | cons l ins ih =>
    intro k f i a b W L qs h30 hk hf h hq hins h32 b1 b2
    obtain ⟨f, rfl⟩ : ∃ f', f = f' + 1 := ⟨f - 1, by omega⟩
    rw [List.length_cons] at h30 hk hf
    rw [lz_c] at b1
    obtain ⟨y0, y1, y2⟩ := hins 0 (by simp)
    have y2 : rW a0 B y0 l := y2
    rw [Nat.add_zero] at y1
    rw [m_Model_tidy_b95, ck_n (by omega), cl_n (by omega), h30, ile_n (by omega), show (5 : Int32) * nI m = nI (5 * m) from pk_mul 5 m, nI_add, ck_n (by omega), cl_n (by omega), y1]
    obtain ⟨i1, a1, W1, L1, y, e1, e2, e3, e4, e5, e6, e7, e8⟩ := MI_word (n := n) (j := j) h y2 (by omega)
    rw [e1, om_s, ck_n (by omega), ob1_s, ob1_s, show nI k + (1 : Int32) = nI (k + 1) from nI_add k 1]
    obtain ⟨a2, ea2⟩ : ∃ a2, a2 = sv a1 31 (5 * m + k) (nI y) := ⟨_, rfl⟩
    rw [← ea2]
    have qo : ∀ q, q ≠ 31 → a2 q = a1 q := fun q hq9 => by rw [ea2]; exact sv_row hq9
    have q31 : a2 31 (5 * m + k) = nI y := by rw [ea2, sv_at]
    have q31n : ∀ z, z ≠ 5 * m + k → a2 31 z = a 31 z := fun z hz => by rw [ea2, sv_ne hz, e8 31 (by decide)]
    have he2 : ext a a2 := ext_trans e5 ⟨fun x _ => by rw [qo 8 (by decide)], fun x _ => by rw [qo 17 (by decide)]⟩
    obtain ⟨i', a', b', W', L', qs', f1, f2, f3, f4, f5, f6, f7, f8, f9, f10, f11, f12, f13⟩ := ih (k + 1) f i1 a2 b W1 L1 qs (by rw [qo 30 (by decide), e8 30 (by decide), h30]; congr 1; omega) (by omega) (by omega) (MI_o e2 (fun q hq9 => qo q (fun e9 => by subst e9; revert hq9; decide)) ⟨rfl, rfl⟩ ⟨rfl, rfl, rfl, rfl⟩) hq (fun q hq9 => by
      obtain ⟨z, z1, z2⟩ := hins (q + 1) (by simp only [List.length_cons]; omega)
      refine ⟨z, ?_, z2⟩
      rw [q31n _ (by omega), show 5 * m + (k + 1) + q = 5 * m + k + (q + 1) by omega]
      exact z1) h32 (by omega) b2
    refine ⟨i', a', b', W', L', qs', f1, f2, f3, fun q hq9 => ?_, f5, f6, f7, ext_trans he2 f8, fun q hq9 => (f9 q hq9).trans (e7 q (nm_ne hq9 (by decide)) (nm_ne hq9 (by decide))), fun q hq9 => ((f10 q hq9).trans (qo q (nm_ne hq9 (by decide)))).trans (e8 q (fun hm9 => hq9 ((show ∀ q ∈ [2, 5, 6, 8], q ∈ [2, 5, 6, 8, 17, 31, 71] by decide) q hm9))), fun z hz => ?_, f12, f13⟩
    · cases q with
      | zero =>
        have hwn : WN a0 B a2 l (a' 31 (5 * m + k + 0)) := ⟨y0, y, y2, e4, by rw [qo 8 (by decide)]; exact e3, by rw [Nat.add_zero, f11 _ (by omega), q31]⟩
        exact WN_ext hwn f8
      | succ q =>
        have := f4 q (by simp only [List.length_cons] at hq9; omega)
        rw [show 5 * m + (k + 1) + q = 5 * m + k + (q + 1) by omega] at this
        exact this
    · rw [List.length_cons] at hz
      rw [f11 z (by omega), q31n z (by omega)]
/-- a procedure, moved -/
def PN1 (a0 : Nat → Nat → Int32) (b0 : Nat → Nat → Int64) (B : RB4) (a : Nat → Nat → Int32) (b : Nat → Nat → Int64) (m : Nat) (p : Proc) : Prop := WN a0 B a p.1 (a 29 m) ∧ (∀ k (h : k < p.2.1.length), WN a0 B a (p.2.1[k]'h) (a 31 (5 * m + k))) ∧ mv a (b0 32 m) (b 32 m)
theorem PN1_ext {a0 : Nat → Nat → Int32} {b0 : Nat → Nat → Int64} {a a' : Nat → Nat → Int32} {b b' : Nat → Nat → Int64} {B : RB4} {m : Nat} {p : Proc} (h : PN1 a0 b0 B a b m p) (he : ext a a') (h5 : p.2.1.length ≤ 5) (h29 : a' 29 m = a 29 m) (h31 : ∀ k, k < 5 → a' 31 (5 * m + k) = a 31 (5 * m + k)) (h32 : b' 32 m = b 32 m) : PN1 a0 b0 B a' b' m p := by
  obtain ⟨h1, h2, h3⟩ := h
  refine ⟨by rw [h29]; exact WN_ext h1 he, fun k hk => by rw [h31 k (by omega)]; exact WN_ext (h2 k hk) he, by rw [h32]; exact mv_ext h3 he⟩
def pzP (ps : List Proc) : Nat := (ps.map (fun p => p.1.length + lz p.2.1 + tSz p.2.2)).sum
def pmP (ps : List Proc) : Nat := (ps.map (fun p => tNd p.2.2)).sum
theorem pzP_c (p : Proc) (ps : List Proc) : pzP (p :: ps) = p.1.length + lz p.2.1 + tSz p.2.2 + pzP ps := by unfold pzP; rw [List.map_cons, List.sum_cons]
theorem pmP_c (p : Proc) (ps : List Proc) : pmP (p :: ps) = tNd p.2.2 + pmP ps := by unfold pmP; rw [List.map_cons, List.sum_cons]
theorem r_t68 {n : Nat} {j : Nat → Int64} {a0 : Nat → Nat → Int32} {b0 : Nat → Nat → Int64} {B : RB4} {K T1 T2 : Nat} {v1 : Int64} (hn : 10 ≤ n) (hK : K ≤ 40) (hT : T1 ≤ 110000 ∧ T2 < 90000) : ∀ (ps : List Proc) (m f : Nat) (i : Nat → Int32) (a : Nat → Nat → Int32) (b : Nat → Nat → Int64) (W L : Nat) (qs : List Tr), i 33 = nI K → m + ps.length = K → ps.length < f → MI a0 b0 B i a b W L 0 0 0 qs → (∀ t ∈ qs, isL t = true) → (∀ q (h : q < ps.length), (∃ x, a 29 (m + q) = nI x ∧ rW a0 B x (ps[q]'h).1) ∧ a 30 (m + q) = nI (ps[q]'h).2.1.length ∧ (ps[q]'h).2.1.length ≤ 5 ∧ (∀ k (h2 : k < (ps[q]'h).2.1.length), ∃ y, a 31 (5 * (m + q) + k) = nI y ∧ rW a0 B y ((ps[q]'h).2.1[k]'h2)) ∧ rV a0 b0 B (ps[q]'h).2.2 none (b0 32 (m + q)) ∧ b 32 (m + q) = b0 32 (m + q)) → L + pzP ps + qz qs ≤ T1 → qs.length + qn qs + pmP ps ≤ T2 →
    ∃ i' a' b' W' L' qs', m_Model_tidy_b68 n f i j a b v1 (nI m) = m_Model_tidy_b162 n n i' j a' b' v1 (nI 0) ∧ MI a0 b0 B i' a' b' W' L' 0 0 0 qs' ∧ (∀ t ∈ qs', isL t = true) ∧ (∀ q (h : q < ps.length), PN1 a0 b0 B a' b' (m + q) (ps[q]'h)) ∧ L' + qz qs' ≤ T1 ∧ qs'.length + qn qs' ≤ T2 ∧ ext a a' ∧ (∀ q, q ∉ tiI → i' q = i q) ∧ (∀ q, q ∉ [2, 5, 6, 8, 17, 29, 31, 71] → a' q = a q) ∧ (∀ z, z < m → a' 29 z = a 29 z ∧ b' 32 z = b 32 z) ∧ (∀ z, z < 5 * m → a' 31 z = a 31 z) ∧ (∀ q, q ≠ 32 → b' q = b q) := by
  intro ps
  induction ps with
  | nil =>
    intro m f i a b W L qs h33 hm hf h hq hp b1 b2
    obtain ⟨f, rfl⟩ : ∃ f', f = f' + 1 := ⟨f - 1, by omega⟩
    have hm2 : m = K := hm
    rw [m_Model_tidy_b68, h33, ile_p (by omega)]
    have z1 : pzP ([] : List Proc) = 0 := rfl
    have z2 : pmP ([] : List Proc) = 0 := rfl
    exact ⟨i, a, b, W, L, qs, rfl, h, hq, fun q hq9 => absurd hq9 (Nat.not_lt_zero _), by omega, by omega, ext_refl, fun _ _ => rfl, fun _ _ => rfl, fun _ _ => ⟨rfl, rfl⟩, fun _ _ => rfl, fun _ _ => rfl⟩
  | cons p ps ih =>
    intro m f i a b W L qs h33 hm hf h hq hp b1 b2
    obtain ⟨f, rfl⟩ : ∃ f', f = f' + 1 := ⟨f - 1, by omega⟩
    rw [List.length_cons] at hm hf
    rw [pzP_c] at b1
    rw [pmP_c] at b2
    obtain ⟨⟨x, x1, x2⟩, p2, p3, p4, p5, p6⟩ := hp 0 (by simp)
    rw [Nat.add_zero] at x1 p2 p4 p5 p6
    have x2 : rW a0 B x p.1 := x2
    have p2 : a 30 m = nI p.2.1.length := p2
    have p3 : p.2.1.length ≤ 5 := p3
    have p4 : ∀ k (h2 : k < p.2.1.length), ∃ y, a 31 (5 * m + k) = nI y ∧ rW a0 B y (p.2.1[k]'h2) := p4
    have p5 : rV a0 b0 B p.2.2 none (b0 32 m) := p5
    rw [m_Model_tidy_b68, h33, ile_n (by omega), ck_n (by omega), cl_n (by omega), x1]
    obtain ⟨i1, a1, W1, L1, y, e1, e2, e3, e4, e5, e6, e7, e8⟩ := MI_word (n := n) (j := j) h x2 (by omega)
    rw [e1, om_s, ck_n (by omega), ob1_s]
    obtain ⟨a2, ea2⟩ : ∃ a2, a2 = sv a1 29 m (nI y) := ⟨_, rfl⟩
    rw [← ea2]
    have qo : ∀ q, q ≠ 29 → a2 q = a1 q := fun q hq9 => by rw [ea2]; exact sv_row hq9
    have q29 : a2 29 m = nI y := by rw [ea2, sv_at]
    have q29n : ∀ z, z ≠ m → a2 29 z = a 29 z := fun z hz => by rw [ea2, sv_ne hz, e8 29 (by decide)]
    have he2 : ext a a2 := ext_trans e5 ⟨fun x _ => by rw [qo 8 (by decide)], fun x _ => by rw [qo 17 (by decide)]⟩
    obtain ⟨i3, a3, b3, W3, L3, qs3, f1, f2, f3, f4, f5, f6, f7, f8, f9, f10, f11, f12, f13⟩ := r_t95 (n := n) (j := j) (rc := m_Model_tidy_b68 n f) (v1 := v1) (m := m) (T1 := T1 - pzP ps) (T2 := T2 - pmP ps) (by omega) (by omega) p5 p.2.1 0 n i1 a2 b W1 L1 qs (by rw [qo 30 (by decide), e8 30 (by decide), p2]; congr 1; omega) (by omega) (by omega) (MI_o e2 (fun q hq9 => qo q (fun e9 => by subst e9; revert hq9; decide)) ⟨rfl, rfl⟩ ⟨rfl, rfl, rfl, rfl⟩) hq (fun q hq9 => by
      rw [qo 31 (by decide), e8 31 (by decide), Nat.add_zero]
      exact p4 q hq9) p6 (by omega) (by omega)
    rw [show (0 : Int32) = nI 0 from rfl, f1]
    have ha3 : ∀ q, q ∉ [2, 5, 6, 8, 17, 29, 31, 71] → a3 q = a q := fun q hq9 => ((f10 q (fun hm9 => hq9 ((show ∀ q ∈ [2, 5, 6, 8, 17, 31, 71], q ∈ [2, 5, 6, 8, 17, 29, 31, 71] by decide) q hm9))).trans (qo q (nm_ne hq9 (by decide)))).trans (e8 q (fun hm9 => hq9 ((show ∀ q ∈ [2, 5, 6, 8], q ∈ [2, 5, 6, 8, 17, 29, 31, 71] by decide) q hm9)))
    have a329 : ∀ z, z ≠ m → a3 29 z = a 29 z := fun z hz => by rw [f10 29 (by decide), q29n z hz]
    have a331 : ∀ z, (z < 5 * m ∨ 5 * (m + 1) ≤ z) → a3 31 z = a 31 z := fun z hz => by rw [f11 z (by omega), qo 31 (by decide), e8 31 (by decide)]
    have hi3 : ∀ q, q ∉ tiI → i3 q = i q := fun q hq9 => (f9 q hq9).trans (e7 q (nm_ne hq9 (by decide)) (nm_ne hq9 (by decide)))
    obtain ⟨i', a', b', W', L', qs', k1, k2, k3, k4, k5, k6, k7, kk8, k9, k10, k11, k12⟩ := ih (m + 1) f i3 a3 b3 W3 L3 qs3 (by rw [hi3 33 (by decide)]; exact h33) (by omega) (by omega) f2 f3 (fun q hq9 => by
      obtain ⟨⟨z, z1, z2⟩, z3, z4, z5, z6, z7⟩ := hp (q + 1) (by simp only [List.length_cons]; omega)
      have em : m + (q + 1) = m + 1 + q := by omega
      rw [em] at z1 z3 z5 z6 z7
      refine ⟨⟨z, by rw [a329 _ (by omega)]; exact z1, z2⟩, by rw [ha3 30 (by decide)]; exact z3, z4, fun k hk => ?_, z6, by rw [f13 _ (by omega)]; exact z7⟩
      obtain ⟨w, w1, w2⟩ := z5 k hk
      exact ⟨w, by rw [a331 _ (by omega)]; exact w1, w2⟩) (by omega) (by omega)
    refine ⟨i', a', b', W', L', qs', k1, k2, k3, fun q hq9 => ?_, k5, k6, ext_trans he2 (ext_trans f8 k7), fun q hq9 => (kk8 q hq9).trans (hi3 q hq9), fun q hq9 => (k9 q hq9).trans (ha3 q hq9), fun z hz => ⟨by rw [(k10 z (by omega)).1, a329 z (by omega)], by rw [(k10 z (by omega)).2, f13 z (by omega)]⟩, fun z hz => by rw [k11 z (by omega), a331 z (by omega)], fun q hq9 => (k12 q hq9).trans (f12 q hq9)⟩
    cases q with
    | zero =>
      have hp1 : PN1 a0 b0 B a3 b3 m p := ⟨⟨x, y, x2, e4, by rw [f8.1 x (by rw [qo 8 (by decide), e3]; exact nI_m1 (by omega)), qo 8 (by decide)]; exact e3, by rw [f10 29 (by decide), q29]⟩, fun k hk => by have := f4 k hk; rw [Nat.add_zero] at this; exact this, f5⟩
      exact PN1_ext hp1 k7 p3 (k10 m (by omega)).1 (fun k hk => k11 _ (by omega)) (k10 m (by omega)).2
    | succ q =>
      have := k4 q (by simp only [List.length_cons] at hq9; omega)
      rw [show m + 1 + q = m + (q + 1) by omega] at this
      exact this
/-- a name, moved -/
def GN1 (a0 : Nat → Nat → Int32) (b0 : Nat → Nat → Int64) (B : RB4) (a : Nat → Nat → Int32) (b : Nat → Nat → Int64) (m : Nat) (p : Nm × Tr) : Prop := WN a0 B a p.1 (a 34 m) ∧ mv a (b0 35 m) (b 35 m)
def gzG (gl : List (Nm × Tr)) : Nat := (gl.map (fun p => p.1.length + tSz p.2)).sum
def gmG (gl : List (Nm × Tr)) : Nat := (gl.map (fun p => tNd p.2)).sum
theorem gzG_c (p : Nm × Tr) (gl : List (Nm × Tr)) : gzG (p :: gl) = p.1.length + tSz p.2 + gzG gl := by unfold gzG; rw [List.map_cons, List.sum_cons]
theorem gmG_c (p : Nm × Tr) (gl : List (Nm × Tr)) : gmG (p :: gl) = tNd p.2 + gmG gl := by unfold gmG; rw [List.map_cons, List.sum_cons]
theorem r_t162 {n : Nat} {j : Nat → Int64} {a0 : Nat → Nat → Int32} {b0 : Nat → Nat → Int64} {B : RB4} {K T1 T2 : Nat} {tl : Tr} {v1 : Int64} (hK : K ≤ 64) (hT : T1 ≤ 110000 ∧ T2 < 90000) (hv1 : rV a0 b0 B tl none v1) : ∀ (gl : List (Nm × Tr)) (m f : Nat) (i : Nat → Int32) (a : Nat → Nat → Int32) (b : Nat → Nat → Int64) (W L : Nat) (qs : List Tr), i 36 = nI K → m + gl.length = K → gl.length < f → MI a0 b0 B i a b W L 0 0 0 qs → (∀ t ∈ qs, isL t = true) → (∀ q (h : q < gl.length), (∃ x, a 34 (m + q) = nI x ∧ rW a0 B x (gl[q]'h).1) ∧ rV a0 b0 B (gl[q]'h).2 none (b0 35 (m + q)) ∧ b 35 (m + q) = b0 35 (m + q)) → L + gzG gl + tSz tl + qz qs ≤ T1 → qs.length + qn qs + gmG gl + tNd tl ≤ T2 →
    ∃ i' a' b' W' L' qs' v3, m_Model_tidy_b162 n f i j a b v1 (nI m) = m_Model_tidy_b217 n n i' j a' b' v3 (nI 0) ∧ MI a0 b0 B i' a' b' W' L' 0 0 0 qs' ∧ (∀ t ∈ qs', isL t = true) ∧ (∀ q (h : q < gl.length), GN1 a0 b0 B a' b' (m + q) (gl[q]'h)) ∧ mv a' v1 v3 ∧ L' + qz qs' ≤ T1 ∧ qs'.length + qn qs' ≤ T2 ∧ ext a a' ∧ (∀ q, q ∉ tiI → i' q = i q) ∧ (∀ q, q ∉ [2, 5, 6, 8, 17, 34, 71] → a' q = a q) ∧ (∀ z, z < m → a' 34 z = a 34 z ∧ b' 35 z = b 35 z) ∧ (∀ q, q ≠ 35 → b' q = b q) := by
  have mvq : ∀ {qs qs' : List Tr} {t : Tr} {L L' T1 T2 r1 r2 : Nat}, 1 ≤ tNd t → (∀ t ∈ qs, isL t = true) → ((qs' = qs ∧ L' ≤ L + tSz t) ∨ (isL t = true ∧ qs' = qs ++ [t] ∧ L' = L)) → L + tSz t + r1 + qz qs ≤ T1 → qs.length + qn qs + r2 + tNd t ≤ T2 → (∀ t ∈ qs', isL t = true) ∧ L' + r1 + qz qs' ≤ T1 ∧ qs'.length + qn qs' + r2 ≤ T2 := by
    intro qs qs' t L L' T1 T2 r1 r2 hnd hq e8 b1 b2
    rcases e8 with ⟨q1, q2⟩ | ⟨q0, q1, q2⟩
    · rw [q1]; exact ⟨hq, by omega, by omega⟩
    · rw [q1, qz_s, qn_s, List.length_append, List.length_singleton]
      refine ⟨fun t ht => ?_, by omega, by omega⟩
      rcases List.mem_append.mp ht with h9 | h9
      · exact hq t h9
      · rw [List.mem_singleton] at h9; rw [h9]; exact q0
  intro gl
  induction gl with
  | nil =>
    intro m f i a b W L qs h36 hm hf h hq hp b1 b2
    obtain ⟨f, rfl⟩ : ∃ f', f = f' + 1 := ⟨f - 1, by omega⟩
    have hm2 : m = K := hm
    have z1 : gzG ([] : List (Nm × Tr)) = 0 := rfl
    have z2 : gmG ([] : List (Nm × Tr)) = 0 := rfl
    have hnd := rV_nd hv1
    rw [m_Model_tidy_b162, h36, ile_p (by omega)]
    obtain ⟨i1, a1, W1, L1, qs1, v', e1, e2, e3, e4, e5, e6, e7, e8⟩ := r_move (n := n) (j := j) h hv1 (by omega) (by omega)
    rw [e1, om_s]
    obtain ⟨g1, g2, g3⟩ := mvq (r1 := 0) (r2 := 0) hnd.1 hq e8 (show L + tSz tl + 0 + qz qs ≤ T1 by omega) (show qs.length + qn qs + 0 + tNd tl ≤ T2 by omega)
    exact ⟨i1, a1, b, W1, L1, qs1, v', rfl, e2, g1, fun q hq9 => absurd hq9 (Nat.not_lt_zero _), e3, by omega, by omega, e4, fun q hq9 => e5 q (nm_ne hq9 (by decide)) (nm_ne hq9 (by decide)) (nm_ne hq9 (by decide)), fun q hq9 => e6 q (fun hm9 => hq9 ((show ∀ q ∈ [2, 5, 6, 8, 17, 71], q ∈ [2, 5, 6, 8, 17, 34, 71] by decide) q hm9)), fun z _ => ⟨by rw [e6 34 (by decide)], rfl⟩, fun _ _ => rfl⟩
  | cons p gl ih =>
    intro m f i a b W L qs h36 hm hf h hq hp b1 b2
    obtain ⟨f, rfl⟩ : ∃ f', f = f' + 1 := ⟨f - 1, by omega⟩
    rw [List.length_cons] at hm hf
    rw [gzG_c] at b1
    rw [gmG_c] at b2
    obtain ⟨⟨x, x1, x2⟩, p5, p6⟩ := hp 0 (by simp)
    rw [Nat.add_zero] at x1 p5 p6
    have x2 : rW a0 B x p.1 := x2
    have p5 : rV a0 b0 B p.2 none (b0 35 m) := p5
    have hnd := rV_nd p5
    rw [m_Model_tidy_b162, h36, ile_n (by omega), ck_n (by omega), cl_n (by omega), x1]
    obtain ⟨i1, a1, W1, L1, y, e1, e2, e3, e4, e5, e6, e7, e8⟩ := MI_word (n := n) (j := j) h x2 (by omega)
    rw [e1, om_s, ck_n (by omega), ob1_s, ck_n (by omega), p6]
    obtain ⟨a2, ea2⟩ : ∃ a2, a2 = sv a1 34 m (nI y) := ⟨_, rfl⟩
    rw [← ea2]
    have qo : ∀ q, q ≠ 34 → a2 q = a1 q := fun q hq9 => by rw [ea2]; exact sv_row hq9
    have q34 : a2 34 m = nI y := by rw [ea2, sv_at]
    have q34n : ∀ z, z ≠ m → a2 34 z = a 34 z := fun z hz => by rw [ea2, sv_ne hz, e8 34 (by decide)]
    have he2 : ext a a2 := ext_trans e5 ⟨fun x _ => by rw [qo 8 (by decide)], fun x _ => by rw [qo 17 (by decide)]⟩
    have hM2 := MI_o (i' := i1) (a' := a2) (b' := b) e2 (fun q hq9 => qo q (fun e9 => by subst e9; revert hq9; decide)) ⟨rfl, rfl⟩ ⟨rfl, rfl, rfl, rfl⟩
    obtain ⟨i3, a3, W3, L3, qs3, v', f1, f2, f3, f4, f5, f6, f7, f8⟩ := r_move (n := n) (j := j) hM2 p5 (by omega) (by omega)
    obtain ⟨g1, g2, g3⟩ := mvq (r1 := gzG gl + tSz tl) (r2 := gmG gl + tNd tl) hnd.1 hq f8 (show L1 + tSz p.2 + (gzG gl + tSz tl) + qz qs ≤ T1 by omega) (show qs.length + qn qs + (gmG gl + tNd tl) + tNd p.2 ≤ T2 by omega)
    rw [f1, om_s, ck_n (by omega), ob1_s, ob1_s, show nI m + (1 : Int32) = nI (m + 1) from nI_add m 1]
    have hi3 : ∀ q, q ∉ tiI → i3 q = i q := fun q hq9 => (f5 q (nm_ne hq9 (by decide)) (nm_ne hq9 (by decide)) (nm_ne hq9 (by decide))).trans (e7 q (nm_ne hq9 (by decide)) (nm_ne hq9 (by decide)))
    have a334 : ∀ z, z ≠ m → a3 34 z = a 34 z := fun z hz => by rw [f6 34 (by decide), q34n z hz]
    have ha3 : ∀ q, q ∉ [2, 5, 6, 8, 17, 34, 71] → a3 q = a q := fun q hq9 => ((f6 q (fun hm9 => hq9 ((show ∀ q ∈ [2, 5, 6, 8, 17, 71], q ∈ [2, 5, 6, 8, 17, 34, 71] by decide) q hm9))).trans (qo q (nm_ne hq9 (by decide)))).trans (e8 q (fun hm9 => hq9 ((show ∀ q ∈ [2, 5, 6, 8], q ∈ [2, 5, 6, 8, 17, 34, 71] by decide) q hm9)))
    obtain ⟨i', a', b', W', L', qs', v3, k1, k2, k3, k4, k5, k6, k7, kk8, k9, k10, k11, k12⟩ := ih (m + 1) f i3 a3 (svl b 35 m v') W3 L3 qs3 (by rw [hi3 36 (by decide)]; exact h36) (by omega) (by omega) (MI_o f2 (fun _ _ => rfl) ⟨svl_row (by decide), svl_row (by decide)⟩ ⟨rfl, rfl, rfl, rfl⟩) g1 (fun q hq9 => by
      obtain ⟨⟨z, z1, z2⟩, z6, z7⟩ := hp (q + 1) (by simp only [List.length_cons]; omega)
      have em : m + (q + 1) = m + 1 + q := by omega
      rw [em] at z1 z6 z7
      exact ⟨⟨z, by rw [a334 _ (by omega)]; exact z1, z2⟩, z6, by rw [svl_ne (by omega)]; exact z7⟩) (by omega) (by omega)
    refine ⟨i', a', b', W', L', qs', v3, k1, k2, k3, fun q hq9 => ?_, k5, k6, k7, ext_trans he2 (ext_trans f4 kk8), fun q hq9 => (k9 q hq9).trans (hi3 q hq9), fun q hq9 => (k10 q hq9).trans (ha3 q hq9), fun z hz => ⟨by rw [(k11 z (by omega)).1, a334 z (by omega)], by rw [(k11 z (by omega)).2, svl_ne (by omega)]⟩, fun q hq9 => (k12 q hq9).trans (svl_row hq9)⟩
    cases q with
    | zero =>
      have hw3 : WN a0 B a3 p.1 (a' 34 m) := ⟨x, y, x2, e4, by rw [f4.1 x (by rw [qo 8 (by decide), e3]; exact nI_m1 (by omega)), qo 8 (by decide)]; exact e3, by rw [(k11 m (by omega)).1, f6 34 (by decide), q34]⟩
      refine ⟨WN_ext hw3 kk8, ?_⟩
      show mv a' (b0 35 m) (b' 35 m)
      rw [(k11 m (by omega)).2, svl_at]
      exact mv_ext f3 kk8
    | succ q =>
      have := k4 q (by simp only [List.length_cons] at hq9; omega)
      rw [show m + 1 + q = m + (q + 1) by omega] at this
      exact this

