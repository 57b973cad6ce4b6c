/-! the reference tidies up: words and values are moved -/
def sm6 (f : Nat → Int32) : Nat → Nat
  | 0 => 0
  | n + 1 => sm6 f n + (f n).toNatClampNeg
theorem sm6_congr {f g : Nat → Int32} : ∀ n, (∀ x, x < n → g x = f x) → sm6 g n = sm6 f n := by
  intro n
  induction n with
  | zero => intro _; rfl
  | succ n ih => intro h; rw [sm6, sm6, ih (fun x hx => h x (by omega)), h n (by omega)]
theorem sm6_ge {f : Nat → Int32} : ∀ n, (∀ x, x < n → 1 ≤ (f x).toNatClampNeg) → n ≤ sm6 f n := by
  intro n
  induction n with
  | zero => intro _; exact Nat.zero_le _
  | succ n ih => intro h; have := ih (fun x hx => h x (by omega)); have := h n (by omega); rw [sm6]; omega
theorem nI_m1 {y : Nat} (h : y < 2147483648) : nI y ≠ -1 := fun e => by
  have := congrArg Int32.toInt e
  rw [nI_toInt (by omega), show ((-1 : Int32).toInt) = -1 from rfl] at this
  omega
/-- y is a copy of the word x -/
def wcp (a0 a : Nat → Nat → Int32) (L x y : Nat) : Prop := ∃ p q s, p ≤ 300000 ∧ a0 3 x = nI p ∧ a0 4 x = nI s ∧ 1 ≤ s ∧ s ≤ 30 ∧ a 5 y = nI q ∧ a 6 y = nI s ∧ q + s ≤ L ∧ ∀ k, k < s → a 2 (q + k) = a0 1 (p + k)
def MIw (a0 : Nat → Nat → Int32) (B : RB4) (a : Nat → Nat → Int32) (W L : Nat) : Prop := (∀ x, x < B.1 → a 8 x = -1 ∨ ∃ y, y < W ∧ a 8 x = nI y ∧ wcp a0 a L x y) ∧ (∀ y, y < W → ∃ x, x < B.1 ∧ wcp a0 a L x y) ∧ sm6 (a 6) W = L ∧ (∀ k, k < L → ∃ c, c < 128 ∧ a 2 k = nI c)
/-- the old rows stay -/
def oldR (a0 : Nat → Nat → Int32) (b0 : Nat → Nat → Int64) (a : Nat → Nat → Int32) (b : Nat → Nat → Int64) : Prop := a 1 = a0 1 ∧ a 3 = a0 3 ∧ a 4 = a0 4 ∧ a 12 = a0 12 ∧ a 13 = a0 13 ∧ a 14 = a0 14 ∧ b 10 = b0 10
theorem wcp_up {a0 a a' : Nat → Nat → Int32} {L L' x y : Nat} (h : wcp a0 a L x y) (hL : L ≤ L') (h5 : a' 5 y = a 5 y) (h6 : a' 6 y = a 6 y) (h2 : ∀ k, k < L → a' 2 k = a 2 k) : wcp a0 a' L' x y := by
  obtain ⟨p, q, s, e0, e1, e2, e3, e4, e5, e6, e7, e8⟩ := h
  exact ⟨p, q, s, e0, e1, e2, e3, e4, h5.trans e5, h6.trans e6, by omega, fun k hk => by rw [h2 _ (by omega)]; exact e8 k hk⟩
theorem MIw_W {a0 : Nat → Nat → Int32} {b0 : Nat → Nat → Int64} {B : RB4} {a : Nat → Nat → Int32} {W L : Nat} (h : MIw a0 B a W L) : W ≤ L := by
  rw [← h.2.2.1]
  refine sm6_ge W (fun y hy => ?_)
  obtain ⟨x, _, p, q, s, _, e1, e2, e3, e4, e5, e6, _⟩ := h.2.1 y hy
  rw [e6, cl_n (by omega)]
  exact e3
theorem r_moveWord {n : Nat} {i : Nat → Int32} {j : Nat → Int64} {a : Nat → Nat → Int32} {b : Nat → Nat → Int64} {a0 : Nat → Nat → Int32} {b0 : Nat → Nat → Int64} {B : RB4} {W L x : Nat} {l : List Nat} (h : MIw a0 B a W L) (ho : oldR a0 b0 a b) (h67 : i 67 = nI W) (h68 : i 68 = nI L) (hw : rW a0 B x l) (hL : L + l.length ≤ 110000) : ∃ i' a' W' L' y, m_Model_moveWord n i j a b (nI x) = some (i', j, a', b, nI y) ∧ MIw a0 B a' W' L' ∧ i' 67 = nI W' ∧ i' 68 = nI L' ∧ a' 8 x = nI y ∧ y < W' ∧ L ≤ L' ∧ L' ≤ L + l.length ∧ (∀ q, q ≠ 67 → q ≠ 68 → i' q = i q) ∧ (∀ q, q ∉ [2, 5, 6, 8] → a' q = a q) ∧ (∀ x, a 8 x ≠ -1 → a' 8 x = a 8 x) := by
  have hWL := MIw_W (b0 := b0) h
  obtain ⟨o1, o3, o4, o12, o13, o14, o10⟩ := ho
  obtain ⟨r1, r2, r3, r4, r5, r6, r7, p, r8, r9, r10⟩ := hw
  have hl1 : 1 ≤ l.length := Nat.pos_of_ne_zero (fun e => r4 (List.length_eq_zero_iff.mp e))
  unfold m_Model_moveWord
  rw [ck_n (by omega), cl_n (by omega)]
  rcases h.1 x r1 with e | ⟨y, y1, y2, y3⟩
  rotate_left
  · rw [y2, if_neg (nI_m1 (by omega))]
    unfold m_Model_moveWord_b100
    rw [ck_n (by omega), cl_n (by omega)]
    exact ⟨i, a, W, L, y, by rw [y2], h, h67, h68, y2, y1, Nat.le_refl _, by omega, fun _ _ _ => rfl, fun _ _ => rfl, fun _ _ => rfl⟩
  rw [if_pos e, ck_n (by omega), ck_n (by omega), o3, o4, r7, r8, h68, h67, cy_n (by omega), cyb_ok (by omega) (by omega) (fun k hk => by
    rw [o1, r10 k hk]
    have := r6 _ (List.getElem_mem hk)
    exact ⟨_, by omega, rfl⟩), cl_n (by omega), cl_n (by omega), cl_n (by omega)]
  obtain ⟨a1, ea1⟩ : ∃ a1, a1 = updA a 2 (va_cpy (a 1) (a 2) p L l.length) := ⟨_, rfl⟩
  rw [← ea1, ob1_s, ck_n (by omega), cl_n (by omega), ob1_s, ck_n (by omega), ck_n (by omega), ob1_s, ck_n (by omega), ob1_s, ob1_s, ck_n (by omega), ob1_s, ob1_s, ob1_s]
  have h1o : ∀ q, q ≠ 2 → a1 q = a q := fun q hq => by rw [ea1]; exact updA_ne hq
  have e2a : ∀ k, k < L → a1 2 k = a 2 k := fun k hk => by rw [ea1, updA_at, pk_cpy_out (by omega)]
  have e2b : ∀ k, k < l.length → a1 2 (L + k) = a0 1 (p + k) := fun k hk => by
    rw [ea1, updA_at, pk_cpy_in (by omega) (by omega), o1]
    congr 1
    omega
  rw [sv_row (show 4 ≠ 5 by decide), sv_row (show 4 ≠ 6 by decide), sv_row (show 4 ≠ 5 by decide), h1o 4 (by decide), o4, r7, upd_ne (show 67 ≠ 68 by decide), h67, nI_add, show nI W + (1 : Int32) = nI (W + 1) from nI_add W 1]
  obtain ⟨a2, ea2⟩ : ∃ a2, a2 = sv (sv (sv a1 5 W (nI L)) 6 W (nI l.length)) 8 x (nI W) := ⟨_, rfl⟩
  rw [← ea2]
  unfold m_Model_moveWord_b100
  have e8 : a2 8 x = nI W := by rw [ea2, sv_at]
  have e8n : ∀ z, z ≠ x → a2 8 z = a 8 z := fun z hz => by rw [ea2, sv_ne hz, sv_row (by decide), sv_row (by decide), h1o 8 (by decide)]
  have e5 : a2 5 W = nI L := by rw [ea2, sv_row (by decide), sv_row (by decide), sv_at]
  have e6 : a2 6 W = nI l.length := by rw [ea2, sv_row (by decide), sv_at]
  have e5n : ∀ z, z ≠ W → a2 5 z = a 5 z := fun z hz => by rw [ea2, sv_row (by decide), sv_row (by decide), sv_ne hz, h1o 5 (by decide)]
  have e6n : ∀ z, z ≠ W → a2 6 z = a 6 z := fun z hz => by rw [ea2, sv_row (by decide), sv_ne hz, sv_row (by decide), h1o 6 (by decide)]
  have e2n : a2 2 = a1 2 := by rw [ea2, sv_row (by decide), sv_row (by decide), sv_row (by decide)]
  rw [ck_n (by omega), cl_n (by omega), e8]
  have hup : ∀ z y, y < W → wcp a0 a L z y → wcp a0 a2 (L + l.length) z y := fun z y hy hc => wcp_up hc (by omega) (e5n y (by omega)) (e6n y (by omega)) (fun k hk => by rw [e2n]; exact e2a k hk)
  have hnew : wcp a0 a2 (L + l.length) x W := ⟨p, L, l.length, by omega, r8, r7, hl1, r5, e5, e6, Nat.le_refl _, fun k hk => by rw [e2n]; exact e2b k hk⟩
  refine ⟨_, a2, W + 1, L + l.length, W, rfl, ⟨fun z hz => ?_, fun y hy => ?_, ?_, fun k hk => ?_⟩, upd_at, by rw [upd_ne (by decide), upd_at], e8, by omega, by omega, Nat.le_refl _, fun q q1 q2 => by rw [upd_ne q1, upd_ne q2], fun q hq => ?_, fun z hz => ?_⟩
  · rcases Classical.em (z = x) with rfl | hzx
    · exact Or.inr ⟨W, by omega, e8, hnew⟩
    · rw [e8n z hzx]
      rcases h.1 z hz with e9 | ⟨y, y1, y2, y3⟩
      · exact Or.inl e9
      · exact Or.inr ⟨y, by omega, y2, hup z y y1 y3⟩
  · rcases Nat.lt_or_ge y W with c | c
    · obtain ⟨z, z1, z2⟩ := h.2.1 y c
      exact ⟨z, z1, hup z y c z2⟩
    · have : y = W := by omega
      subst this
      exact ⟨x, r1, hnew⟩
  · rw [sm6, sm6_congr (f := a 6) W (fun z hz => e6n z (by omega)), h.2.2.1, e6, cl_n (by omega)]
  · rw [e2n]
    rcases Nat.lt_or_ge k L with c | c
    · rw [e2a k c]; exact h.2.2.2 k c
    · have := e2b (k - L) (by omega)
      rw [show L + (k - L) = k by omega] at this
      rw [this, r10 (k - L) (by omega)]
      have := r6 _ (List.getElem_mem (show k - L < l.length by omega))
      exact ⟨_, by omega, rfl⟩
  · rw [ea2, sv_row (nm_ne hq (by decide)), sv_row (nm_ne hq (by decide)), sv_row (nm_ne hq (by decide)), h1o q (nm_ne hq (by decide))]
  · rcases Classical.em (z = x) with rfl | hzx
    · exact absurd e hz
    · exact e8n z hzx
/-- the new value of an old one -/
def mv (a : Nat → Nat → Int32) (v v' : Int64) : Prop := (∃ z : Int, v = vN z ∧ v' = v) ∨ (∃ x y : Nat, v = vW x ∧ v' = vW y ∧ x < 200000 ∧ y < 200000 ∧ a 8 x = nI y) ∨ (∃ l k : Nat, v = vL l ∧ v' = vL k ∧ l < 200000 ∧ k < 200000 ∧ a 17 l = nI k)
def MIl (a0 : Nat → Nat → Int32) (b0 : Nat → Nat → Int64) (B : RB4) (a : Nat → Nat → Int32) (b : Nat → Nat → Int64) (P C : Nat) (qs : List Tr) : Prop := (∀ l, l < B.2.2.1 → a 17 l = -1 ∨ ∃ k, k < P + qs.length ∧ a 17 l = nI k ∧ a 71 k = nI l) ∧ (∀ k (h : k < qs.length), ∃ l, l < B.2.2.1 ∧ a 71 (P + k) = nI l ∧ a 17 l = nI (P + k) ∧ rV a0 b0 B (qs[k]'h) none (vL l)) ∧ (∀ k, k < P → ∃ l c cnt p, l < B.2.2.1 ∧ a 71 k = nI l ∧ a 17 l = nI k ∧ a0 12 l = nI p ∧ a0 13 l = nI cnt ∧ a 15 k = nI c ∧ a 16 k = nI cnt ∧ (c + cnt ≤ C ∧ p ≤ 100000 ∧ cnt ≤ 100000) ∧ ∀ m, m < cnt → mv a (b0 10 (p + m)) (b 11 (c + m)))
def ext (a a' : Nat → Nat → Int32) : Prop := (∀ x, a 8 x ≠ -1 → a' 8 x = a 8 x) ∧ (∀ x, a 17 x ≠ -1 → a' 17 x = a 17 x)
theorem ext_refl {a : Nat → Nat → Int32} : ext a a := ⟨fun _ _ => rfl, fun _ _ => rfl⟩
theorem ext_trans {a a' a2 : Nat → Nat → Int32} (h : ext a a') (h' : ext a' a2) : ext a a2 := ⟨fun x hx => (h'.1 x (by rw [h.1 x hx]; exact hx)).trans (h.1 x hx), fun x hx => (h'.2 x (by rw [h.2 x hx]; exact hx)).trans (h.2 x hx)⟩
theorem mv_ext {a a' : Nat → Nat → Int32} {v v' : Int64} (h : mv a v v') (he : ext a a') : mv a' v v' := by
  rcases h with h | ⟨x, y, e1, e2, e3, e4, e5⟩ | ⟨l, k, e1, e2, e3, e4, e5⟩
  · exact Or.inl h
  · exact Or.inr (Or.inl ⟨x, y, e1, e2, e3, e4, by rw [he.1 x (by rw [e5]; exact nI_m1 (by omega)), e5]⟩)
  · exact Or.inr (Or.inr ⟨l, k, e1, e2, e3, e4, by rw [he.2 l (by rw [e5]; exact nI_m1 (by omega)), e5]⟩)
theorem MIl_word {a0 : Nat → Nat → Int32} {b0 : Nat → Nat → Int64} {a a' : Nat → Nat → Int32} {b : Nat → Nat → Int64} {B : RB4} {P C : Nat} {qs : List Tr} (h : MIl a0 b0 B a b P C qs) (he : ext a a') (h17 : a' 17 = a 17) (h71 : a' 71 = a 71) (h15 : a' 15 = a 15) (h16 : a' 16 = a 16) : MIl a0 b0 B a' b P C qs := by
  obtain ⟨h1, h2, h3⟩ := h
  refine ⟨by rw [h17, h71]; exact h1, by rw [h17, h71]; exact h2, fun k hk => ?_⟩
  obtain ⟨l, c, cnt, p, e1, e2, e3, e4, e5, e6, e7, e8, e9⟩ := h3 k hk
  exact ⟨l, c, cnt, p, e1, by rw [h71]; exact e2, by rw [h17]; exact e3, e4, e5, by rw [h15]; exact e6, by rw [h16]; exact e7, e8, fun m hm => mv_ext (e9 m hm) he⟩
/-- how the copying stands -/
def MI (a0 : Nat → Nat → Int32) (b0 : Nat → Nat → Int64) (B : RB4) (i : Nat → Int32) (a : Nat → Nat → Int32) (b : Nat → Nat → Int64) (W L P C D : Nat) (qs : List Tr) : Prop := MIw a0 B a W L ∧ MIl a0 b0 B a b P C qs ∧ oldR a0 b0 a b ∧ i 67 = nI W ∧ i 68 = nI L ∧ i 69 = nI D ∧ i 70 = nI (P + qs.length)
/-- a value is moved -/
theorem r_move {n : Nat} {i : Nat → Int32} {j : Nat → Int64} {a : Nat → Nat → Int32} {b : Nat → Nat → Int64} {a0 : Nat → Nat → Int32} {b0 : Nat → Nat → Int64} {B : RB4} {W L P C D : Nat} {qs : List Tr} {t : Tr} {v : Int64} (h : MI a0 b0 B i a b W L P C D qs) (hv : rV a0 b0 B t none v) (hL : L + tSz t ≤ 110000) (hQ : P + qs.length < 90000) : ∃ i' a' W' L' qs' v', m_Model_move n i j a b v = some (i', j, a', b, v') ∧ MI a0 b0 B i' a' b W' L' P C D qs' ∧ mv a' v v' ∧ ext a a' ∧ (∀ q, q ≠ 67 → q ≠ 68 → q ≠ 70 → i' q = i q) ∧ (∀ q, q ∉ [2, 5, 6, 8, 17, 71] → a' q = a q) ∧ L ≤ L' ∧ ((qs' = qs ∧ L' ≤ L + tSz t) ∨ (isL t = true ∧ qs' = qs ++ [t] ∧ L' = L)) := by
  obtain ⟨hw, hl, ho, h67, h68, h69, h70⟩ := h
  obtain ⟨k1, k2, k3⟩ := r_kinds n hv
  unfold m_Model_move
  rcases rV_cases hv with ⟨z, rfl, _, _, rfl⟩ | ⟨l, w, rfl, rfl, hrw⟩ | ⟨ms, l, p, rfl, rfl, hH, _⟩
  · rw [(r_isN n z).1, ob0_s, if_neg (by decide)]
    exact ⟨i, a, W, L, qs, vN z, rfl, ⟨hw, hl, ho, h67, h68, h69, h70⟩, Or.inl ⟨z, rfl, rfl⟩, ext_refl, fun _ _ _ _ => rfl, fun _ _ => rfl, Nat.le_refl _, Or.inl ⟨rfl, by omega⟩⟩
  · rw [tSz_tW] at hL
    have hwb : w < 120000 := by have := hrw.1; have := hrw.2.1; omega
    rw [(r_isW n w).1, ob0_s, if_pos rfl, (r_isW n w).2.1, ob0_s, if_neg (by decide), r_whatW (by omega), ob0_s]
    obtain ⟨i', a', W', L', y, e1, e2, e3, e4, e5, e6, e7, e8, e9, e10, e11⟩ := r_moveWord (n := n) (j := j) hw ho h67 h68 hrw hL
    have hW' := MIw_W (b0 := b0) e2
    rw [e1, om_s, r_wordValue (by omega), ob0_s]
    have he : ext a a' := ⟨e11, fun x _ => by rw [e10 17 (by decide)]⟩
    refine ⟨i', a', W', L', qs, vW y, rfl, ⟨e2, MIl_word hl he (e10 17 (by decide)) (e10 71 (by decide)) (e10 15 (by decide)) (e10 16 (by decide)), ?_, e3, e4, (e9 69 (by decide) (by decide)).trans h69, (e9 70 (by decide) (by decide)).trans h70⟩, Or.inr (Or.inl ⟨w, y, rfl, rfl, by omega, by omega, e5⟩), he, fun q q1 q2 _ => e9 q q1 q2, fun q hq => e10 q (fun hm => hq ((show ∀ q ∈ [2, 5, 6, 8], q ∈ [2, 5, 6, 8, 17, 71] by decide) q hm)), e7, Or.inl ⟨rfl, by rw [tSz_tW]; exact e8⟩⟩
    obtain ⟨o1, o3, o4, o12, o13, o14, o10⟩ := ho
    exact ⟨(e10 1 (by decide)).trans o1, (e10 3 (by decide)).trans o3, (e10 4 (by decide)).trans o4, (e10 12 (by decide)).trans o12, (e10 13 (by decide)).trans o13, (e10 14 (by decide)).trans o14, o10⟩
  · have hlb : l < 90000 := by have := hH.1; have := hH.2.1; omega
    rw [(r_isL n l).1, ob0_s, if_pos rfl, (r_isL n l).2.1, ob0_s, if_pos rfl, r_whatL (by omega), ob0_s, ck_n (by omega), cl_n (by omega)]
    obtain ⟨g1, g2, g3⟩ := id hl
    rcases g1 l hH.1 with e | ⟨k, c1, c2, c3⟩
    rotate_left
    · rw [c2, if_neg (nI_m1 (by omega))]
      unfold m_Model_move_b73
      rw [ck_n (by omega), cl_n (by omega), c2, r_listValue (by omega), ob0_s]
      exact ⟨i, a, W, L, qs, vL k, rfl, ⟨hw, hl, ho, h67, h68, h69, h70⟩, Or.inr (Or.inr ⟨l, k, rfl, rfl, by omega, by omega, c2⟩), ext_refl, fun _ _ _ _ => rfl, fun _ _ => rfl, Nat.le_refl _, Or.inl ⟨rfl, by omega⟩⟩
    rw [if_pos e, ck_n (by omega), ob1_s, h70, ck_n (by omega), cl_n (by omega), ob1_s, ob1_s, ob1_s, show nI (P + qs.length) + (1 : Int32) = nI (P + qs.length + 1) from nI_add _ 1]
    obtain ⟨a2, ea2⟩ : ∃ a2, a2 = sv (sv a 17 l (nI (P + qs.length))) 71 (P + qs.length) (nI l) := ⟨_, rfl⟩
    rw [← ea2]
    have q17 : a2 17 l = nI (P + qs.length) := by rw [ea2, sv_row (by decide), sv_at]
    have q17n : ∀ z, z ≠ l → a2 17 z = a 17 z := fun z hz => by rw [ea2, sv_row (by decide), sv_ne hz]
    have q71 : a2 71 (P + qs.length) = nI l := by rw [ea2, sv_at]
    have q71n : ∀ z, z ≠ P + qs.length → a2 71 z = a 71 z := fun z hz => by rw [ea2, sv_ne hz, sv_row (by decide)]
    have qo : ∀ q, q ≠ 17 → q ≠ 71 → a2 q = a q := fun q q1 q2 => by rw [ea2, sv_row q2, sv_row q1]
    have he : ext a a2 := ⟨fun x _ => by rw [qo 8 (by decide) (by decide)], fun x hx => by
      rcases Classical.em (x = l) with rfl | hxl
      · exact absurd e hx
      · exact q17n x hxl⟩
    unfold m_Model_move_b73
    rw [ck_n (by omega), cl_n (by omega), q17, r_listValue (by omega), ob0_s]
    refine ⟨_, a2, W, L, qs ++ [tL ms], vL (P + qs.length), rfl, ⟨?_, ⟨fun z hz => ?_, fun k hk => ?_, fun k hk => ?_⟩, ?_, by rw [upd_ne (by decide)]; exact h67, by rw [upd_ne (by decide)]; exact h68, by rw [upd_ne (by decide)]; exact h69, by rw [upd_at, List.length_append, List.length_singleton, Nat.add_assoc]⟩, Or.inr (Or.inr ⟨l, _, rfl, rfl, by omega, by omega, q17⟩), he, fun q q1 q2 q3 => upd_ne q3, fun q hq => qo q (nm_ne hq (by decide)) (nm_ne hq (by decide)), Nat.le_refl _, Or.inr ⟨isL_tL ms, rfl, rfl⟩⟩
    · obtain ⟨u1, u2, u3, u4⟩ := hw
      have ew : ∀ x y, wcp a0 a L x y → wcp a0 a2 L x y := fun x y hc => wcp_up hc (Nat.le_refl _) (by rw [qo 5 (by decide) (by decide)]) (by rw [qo 6 (by decide) (by decide)]) (fun k _ => by rw [qo 2 (by decide) (by decide)])
      refine ⟨fun x hx => ?_, fun y hy => ?_, by rw [qo 6 (by decide) (by decide)]; exact u3, fun k hk => by rw [qo 2 (by decide) (by decide)]; exact u4 k hk⟩
      · rw [qo 8 (by decide) (by decide)]
        rcases u1 x hx with e9 | ⟨y, y1, y2, y3⟩
        · exact Or.inl e9
        · exact Or.inr ⟨y, y1, y2, ew x y y3⟩
      · obtain ⟨x, x1, x2⟩ := u2 y hy
        exact ⟨x, x1, ew x y x2⟩
    · rw [List.length_append, List.length_singleton]
      rcases Classical.em (z = l) with rfl | hzl
      · exact Or.inr ⟨P + qs.length, by omega, q17, q71⟩
      · rw [q17n z hzl]
        rcases g1 z hz with e9 | ⟨k, c1, c2, c3⟩
        · exact Or.inl e9
        · exact Or.inr ⟨k, by omega, c2, by rw [q71n k (by omega)]; exact c3⟩
    · rw [List.length_append, List.length_singleton] at hk
      rcases Nat.lt_or_ge k qs.length with c | c
      · obtain ⟨z, z1, z2, z3, z4⟩ := g2 k c
        refine ⟨z, z1, by rw [q71n _ (by omega)]; exact z2, ?_, by rw [List.getElem_append_left c]; exact z4⟩
        rw [q17n z (fun e9 => by subst e9; rw [e] at z3; exact nI_m1 (by omega) z3.symm)]
        exact z3
      · have hk2 : k = qs.length := by omega
        subst hk2
        refine ⟨l, hH.1, q71, q17, ?_⟩
        rw [List.getElem_append_right (Nat.le_refl _)]
        simpa using hv
    · obtain ⟨z, c, cnt, p', z1, z2, z3, z4, z5, z6, z7, z8, z9⟩ := g3 k hk
      refine ⟨z, c, cnt, p', z1, by rw [q71n _ (by omega)]; exact z2, ?_, z4, z5, by rw [qo 15 (by decide) (by decide)]; exact z6, by rw [qo 16 (by decide) (by decide)]; exact z7, z8, fun m hm => mv_ext (z9 m hm) he⟩
      rw [q17n z (fun e9 => by subst e9; rw [e] at z3; exact nI_m1 (by omega) z3.symm)]
      exact z3
    · obtain ⟨o1, o3, o4, o12, o13, o14, o10⟩ := ho
      exact ⟨(qo 1 (by decide) (by decide)).trans o1, (qo 3 (by decide) (by decide)).trans o3, (qo 4 (by decide) (by decide)).trans o4, (qo 12 (by decide) (by decide)).trans o12, (qo 13 (by decide) (by decide)).trans o13, (qo 14 (by decide) (by decide)).trans o14, o10⟩

