/-! the reference sets a token down -/
theorem TOK_val {a : Nat → Nat → Int32} {b : Nat → Nat → Int64} {B : RB4} {T : Nat → Tr} {mt : Nat → Nat} {vl : Nat → Bool} {x : Nat} {v : Tr} (h1 : a 79 x = nI x) (h2 : x < 601) (h3 : rV a b B v none (b 80 x)) (h4 : isL v = false) : TOK a b B (gU T x v) (gU mt x x) (gU vl x true) x := by
  unfold TOK
  rw [gU_at, gU_at, gU_at]
  exact ⟨h1, Nat.le_refl _, h2, fun _ => ⟨rfl, h3, h4⟩, (fun e => by cases e), fun e => absurd e (Nat.lt_irrefl _)⟩
theorem TOK_br {a : Nat → Nat → Int32} {b : Nat → Nat → Int64} {B : RB4} {T : Nat → Tr} {mt : Nat → Nat} {vl : Nat → Bool} {x : Nat} {v : Tr} (h1 : a 79 x = nI x) (h2 : x < 601) (h3 : b 80 x = 3) : TOK a b B (gU T x v) (gU mt x x) (gU vl x false) x := by
  unfold TOK
  rw [gU_at, gU_at, gU_at]
  exact ⟨h1, Nat.le_refl _, h2, (fun e => by cases e), fun _ => h3, fun e => absurd e (Nat.lt_irrefl _)⟩
theorem CO_new {i : Nat → Int32} {a : Nat → Nat → Int32} {b : Nat → Nat → Int64} {i' : Nat → Int32} {a' : Nat → Nat → Int32} {b' : Nat → Nat → Int64} {B B' : RB4} {T : Nat → Tr} {mt : Nat → Nat} {vl : Nat → Bool} {tok : Nat} {v : Tr} {fl : Bool} (h : CO i a b B T mt vl tok) (hu : rUp a b B a' b' B') (hB : rB i' B') (hC : rC1 a' b' B') (h75 : i' 75 = 0) (h81 : i' 81 = nI (tok + 1)) (ht : tok < 600) (h79 : ∀ x, x < tok → a' 79 x = a 79 x) (h80 : ∀ x, x < tok → b' 80 x = b 80 x) (hk : TOK a' b' B' (gU T tok v) (gU mt tok tok) (gU vl tok fl) tok) : CO i' a' b' B' (gU T tok v) (gU mt tok tok) (gU vl tok fl) (tok + 1) := by
  refine ⟨hB, hC, h75, h81, by omega, fun x hx => ?_⟩
  rcases Classical.em (x = tok) with e | e
  · subst e
    exact ⟨hk, by rw [gU_at]; omega⟩
  · obtain ⟨k1, k2⟩ := h.2.2.2.2.2 x (by omega)
    exact ⟨TOK_co (TOK_up k1 hu (h79 x (by omega)) (h80 x (by omega))) (fun q q1 q2 => ⟨gU_ne (by omega), gU_ne (by omega), gU_ne (by omega)⟩), by rw [gU_ne e]; omega⟩
/-- a ] : the list from s on is whole -/
theorem CO_close {i : Nat → Int32} {a : Nat → Nat → Int32} {b : Nat → Nat → Int64} {i' : Nat → Int32} {a' : Nat → Nat → Int32} {b' : Nat → Nat → Int64} {B B' : RB4} {T : Nat → Tr} {mt : Nat → Nat} {vl : Nat → Bool} {tok s : Nat} {v : Tr} {m : List Tr} (h : CO i a b B T mt vl tok) (hu : rUp a b B a' b' B') (hB : rB i' B') (hC : rC1 a' b' B') (h75 : i' 75 = 0) (h81 : i' 81 = nI (tok + 1)) (ht : tok < 600) (h79 : ∀ x, x < tok → x ≠ s → a' 79 x = a 79 x) (h79s : a' 79 s = nI tok) (h79t : a' 79 tok = nI tok) (h80 : ∀ x, x < tok → b' 80 x = b 80 x) (h80t : b' 80 tok = 3)
    (hs : s < tok) (hv : vl s = false ∧ mt s = s ∧ ∀ x, x < s → mt x < s) (hm : SEG T mt vl m (s + 1) tok) (hz : tSz (tL m) ≤ 5000 ∧ tSl (tL m) ≤ 8000) : CO i' a' b' B' (gU (gU T s (tL m)) tok v) (gU (gU mt s tok) tok tok) (gU vl tok false) (tok + 1) := by
  have agree : ∀ q, q ≠ s → q < tok → gU (gU T s (tL m)) tok v q = T q ∧ gU (gU mt s tok) tok tok q = mt q ∧ gU vl tok false q = vl q := fun q q1 q2 => ⟨by rw [gU_ne (by omega), gU_ne q1], by rw [gU_ne (by omega), gU_ne q1], gU_ne (by omega)⟩
  refine ⟨hB, hC, h75, h81, by omega, fun x hx => ?_⟩
  rcases Classical.em (x = tok) with e | e
  · subst e
    exact ⟨TOK_br h79t (by omega) h80t, by rw [gU_at]; omega⟩
  rcases Classical.em (x = s) with e2 | e2
  · subst e2
    have hnd := SEG_nd (tok - (x + 1)) m (x + 1) tok (Nat.le_refl _) hm (fun q q1 q2 => (h.2.2.2.2.2 q q2).1)
    have e1 : gU (gU mt x tok) tok tok x = tok := by rw [gU_ne e, gU_at]
    have e3 : gU (gU T x (tL m)) tok v x = tL m := by rw [gU_ne e, gU_at]
    have e4 : gU vl tok false x = false := by rw [gU_ne e]; exact hv.1
    refine ⟨?_, by rw [e1]; omega⟩
    unfold TOK
    rw [e1, e3, e4]
    refine ⟨h79s, by omega, by omega, (fun q => by cases q), fun _ => (h80 x hs).trans ((h.2.2.2.2.2 x hs).1.2.2.2.2.1 hv.1), fun _ => ⟨⟨rfl, gU_at⟩, m, rfl, SEG_congr m _ _ hm (fun q q1 q2 => agree q (by omega) q2), hz.1, ?_, hz.2⟩⟩
    rw [qm_tL]
    omega
  · obtain ⟨k1, k2⟩ := h.2.2.2.2.2 x (by omega)
    refine ⟨TOK_co (TOK_up k1 hu (h79 x (by omega) e2) (h80 x (by omega))) (fun q q1 q2 => ?_), by rw [(agree x e2 (by omega)).2.1]; omega⟩
    rcases Nat.lt_or_ge x s with c | c
    · have := hv.2.2 x c
      exact agree q (by omega) (by omega)
    · exact agree q (by omega) (by omega)
/-- rows of a new token -/
def tkA (a : Nat → Nat → Int32) (tok k L : Nat) : Nat → Nat → Int32 := sv (sv (sv a 77 tok (nI k)) 78 tok (nI L)) 79 tok (nI tok)
theorem tkA_row {a : Nat → Nat → Int32} {tok k L q : Nat} (h : q ≠ 77 ∧ q ≠ 78 ∧ q ≠ 79) : tkA a tok k L q = a q := by
  unfold tkA
  rw [sv_row h.2.2, sv_row h.2.1, sv_row h.1]
theorem tkA_77 {a : Nat → Nat → Int32} {tok k L : Nat} : tkA a tok k L 77 tok = nI k := by
  unfold tkA
  rw [sv_row (by decide), sv_row (by decide), sv_at]
theorem tkA_79 {a : Nat → Nat → Int32} {tok k L : Nat} : tkA a tok k L 79 tok = nI tok := by
  unfold tkA
  rw [sv_at]
theorem tkA_79n {a : Nat → Nat → Int32} {tok k L x : Nat} (h : x ≠ tok) : tkA a tok k L 79 x = a 79 x := by
  unfold tkA
  rw [sv_ne h, sv_row (by decide), sv_row (by decide)]
/-- a token is set down, and nothing is made of it -/
def SM (dfn : Bool) (i0 : Nat → Int32) (a0 : Nat → Nat → Int32) (b0 : Nat → Nat → Int64) (B0 : RB4) (k E : Nat) (r : Rd) (i : Nat → Int32) (a : Nat → Nat → Int32) (b : Nat → Nat → Int64) (B : RB4) (T : Nat → Tr) (mt : Nat → Nat) (vl : Nat → Bool) (S : List Nat) (lo : Nat) : Prop :=
  (SF i0 a0 b0 B0 i a b B ∧ (B.1 + 1 ≤ B0.1 + 2 * (r.2.2.1 + 1) ∧ B.2.1 ≤ B0.2.1 + E ∧ B.2.2 = B0.2.2) ∧ CO i a b B T mt vl (r.2.2.1 + 1)) ∧ (R82 a S ∧ S.length ≤ 20) ∧ a 77 r.2.2.1 = nI k ∧ (dfn = true → DD i a B T mt vl lo r.2.2.1 r.1 r.2.2.2.2.2.2.1 r.2.2.2.1 r.2.2.2.2.1 (rdI r)) ∧ (dfn = false → i 84 = 0 ∧ lo = 0)
/-- where the body begins, once all inputs are read -/
def loC (r : Rd) (lo : Nat) : Nat := if r.1 = 2 then r.2.2.1 else lo
theorem KS_CI {dfn : Bool} {P : List Proc} {i0 : Nat → Int32} {a0 : Nat → Nat → Int32} {b0 : Nat → Nat → Int64} {B0 : RB4} {k : Nat} {r : Rd} {i : Nat → Int32} {a : Nat → Nat → Int32} {b : Nat → Nat → Int64} {B : RB4} {T : Nat → Tr} {mt : Nat → Nat} {vl : Nat → Bool} {S : List Nat} {lo : Nat} (h : SI dfn P i0 a0 b0 B0 k r i a b B T mt vl S lo) (h2 : 2 ≤ r.1) : KSx T mt vl (loC r lo) S (aCI r).2.1 r.2.2.1 := by
  obtain ⟨_, ⟨hr, _⟩, ⟨h3, ⟨h4, _⟩, _⟩, _⟩ := h
  unfold loC aCI
  rcases Classical.em (r.1 = 2) with e | e
  · rw [if_pos e, if_pos e]
    have hl : r.2.1.length = 1 := hr.2.2.2.2.2.1 (by omega)
    have : S = [] := List.length_eq_zero_iff.mp (by omega)
    subst this
    exact ⟨[], rfl, rfl⟩
  · rw [if_neg e, if_neg e]
    exact h3 (by have := hr.1; omega)
theorem i81_ne {i : Nat → Int32} {q : Nat} {x : Int32} (h : q ∉ scI) : upd i 81 x q = i q := upd_ne (fun e => h (by rw [e]; decide))
/-- [ -/
theorem r_tokO {n N k E : Nat} {dfn : Bool} {P : List Proc} {i0 : Nat → Int32} {a0 : Nat → Nat → Int32} {b0 : Nat → Nat → Int64} {B0 : RB4} {rc : (Nat → Int32) → (Nat → Int64) → (Nat → Nat → Int32) → (Nat → Nat → Int64) → Int32 → Int32 → Int32 → Int32 → Option ((Nat → Int32) × (Nat → Int64) × (Nat → Nat → Int32) × (Nat → Nat → Int64) × Int32)} {r : Rd} {i : Nat → Int32} {j : Nat → Int64} {a : Nat → Nat → Int32} {b : Nat → Nat → Int64} {B : RB4} {T : Nat → Tr} {mt : Nat → Nat} {vl : Nat → Bool} {S : List Nat} {lo : Nat} (h : SI dfn P i0 a0 b0 B0 k r i a b B T mt vl S lo) (hE : k ≤ E ∧ E ≤ 4000) (ht : r.2.2.1 < 600) (hS : S.length < 20) : ∃ i' a' b' T' mt' vl', m_Model_scan_b414 n rc i j a b (b1 dfn) (nI N) (nI S.length) (nI k) 91 (nI E) 1 0 = m_Model_scan_b629 n rc i' j a' b' (b1 dfn) (nI N) (nI (S.length + 1)) (nI E) (nI r.2.2.1) ∧ SM dfn i0 a0 b0 B0 k E r i' a' b' B T' mt' vl' (r.2.2.1 :: S) lo ∧ b' 80 r.2.2.1 = 3 ∧ (2 ≤ r.1 → KSx T' mt' vl' (loC r lo) (r.2.2.1 :: S) ([] :: (aCI r).2.1) (r.2.2.1 + 1)) := by
  have hks := KS_CI h
  obtain ⟨st, K, tok, D, cw, ci, fr, fk, fp⟩ := r
  obtain ⟨⟨hF, hb, hCO⟩, ⟨hr, hf⟩, ⟨h3, ⟨h4, _⟩, h5⟩, h6, h7⟩ := h
  dsimp only at *
  obtain ⟨c1, c2, c3, c4, c5, c6⟩ := id hCO
  have hB := c1.2.2.2.2
  unfold m_Model_scan_b414
  rw [if_pos c3, c4, ob1_s, ob1_s, show nI tok + (1 : Int32) = nI (tok + 1) from nI_add _ 1, ob1_s, ck_n (by omega), ob1_s, cl_n (by omega), ck_n (by omega), sub_n (by omega), ob1_s, ck_n (by omega), ob1_s, if_pos rfl, if_neg (by decide), ck_n (by omega), ob1_s, cl_n (by omega), ob1_s, show nI S.length + (1 : Int32) = nI (S.length + 1) from nI_add _ 1, ck_n (by omega), ob1_s]
  obtain ⟨a2, ea2⟩ : ∃ a2, a2 = sv (tkA a tok k (E - k)) 82 S.length (nI tok) := ⟨_, rfl⟩
  have hrow : ∀ q, q ∉ scR → a2 q = a q := fun q hq => by
    rw [ea2, sv_row (fun e => hq (by rw [e]; decide)), tkA_row ⟨fun e => hq (by rw [e]; decide), fun e => hq (by rw [e]; decide), fun e => hq (by rw [e]; decide)⟩]
  have h79 : ∀ x, x ≠ tok → a2 79 x = a 79 x := fun x hx => by rw [ea2, sv_row (by decide), tkA_79n hx]
  have h79t : a2 79 tok = nI tok := by rw [ea2, sv_row (by decide), tkA_79]
  have hsf : SF i a b B (upd i 81 (nI (tok + 1))) a2 (svl b 80 tok 3) B := SF_rows hB (fun q hq => i81_ne hq) hrow (fun q hq => svl_row hq)
  have hco : CO (upd i 81 (nI (tok + 1))) a2 (svl b 80 tok 3) B (gU T tok (tN 0)) (gU mt tok tok) (gU vl tok false) (tok + 1) := CO_new hCO hsf.2.2.2.1 (rB_sc c1 (upd_ne (by decide)) (upd_ne (by decide)) (upd_ne (by decide)) (upd_ne (by decide))) (rC1_SF c2 hsf) ((upd_ne (by decide)).trans c3) upd_at ht (fun x hx => h79 x (by omega)) (fun x hx => svl_ne (by omega)) (TOK_br h79t (by omega) svl_at)
  have hag : ∀ q, q < tok → gU T tok (tN 0) q = T q ∧ gU mt tok tok q = mt q ∧ gU vl tok false q = vl q := fun q hq => ⟨gU_ne (by omega), gU_ne (by omega), gU_ne (by omega)⟩
  refine ⟨upd i 81 (nI (tok + 1)), a2, svl b 80 tok 3, gU T tok (tN 0), gU mt tok tok, gU vl tok false, by rw [ea2]; rfl, ⟨⟨SF_trans hF hsf, ⟨by have := hb.1; show B.1 + 1 ≤ B0.1 + 2 * (tok + 1); omega, by have := hb.2.1; omega, hb.2.2⟩, hco⟩, ⟨⟨by rw [ea2, sv_at], R82_up S h5 (fun q hq => by rw [ea2, sv_ne (by omega), tkA_row (by decide)])⟩, by rw [List.length_cons]; omega⟩, by rw [ea2, sv_row (by decide), tkA_77], fun e => ?_, fun e => ⟨(upd_ne (by decide)).trans (h7 e).1, (h7 e).2⟩⟩, svl_at, fun e => ?_⟩
  · have hd := h6 e
    exact DD_up hd hsf.2.2.2.1 ⟨upd_ne (by decide), upd_ne (by decide), upd_ne (by decide)⟩ (Nat.le_refl _) (fun q q1 q2 => by rw [ea2, sv_row (by omega), tkA_row (by omega)]) (fun q hq => hag q (by have := hd.2.2.1; omega))
  · exact KSx_open (KSx_congr _ _ _ (hks e) hag) gU_at gU_at (fun x hx => by rw [gU_ne (by omega)]; exact (c6 x hx).2)
/-- ] -/
theorem r_tokC {n N k E : Nat} {dfn : Bool} {P : List Proc} {i0 : Nat → Int32} {a0 : Nat → Nat → Int32} {b0 : Nat → Nat → Int64} {B0 : RB4} {rc : (Nat → Int32) → (Nat → Int64) → (Nat → Nat → Int32) → (Nat → Nat → Int64) → Int32 → Int32 → Int32 → Int32 → Option ((Nat → Int32) × (Nat → Int64) × (Nat → Nat → Int32) × (Nat → Nat → Int64) × Int32)} {r : Rd} {i : Nat → Int32} {j : Nat → Int64} {a : Nat → Nat → Int32} {b : Nat → Nat → Int64} {B : RB4} {T : Nat → Tr} {mt : Nat → Nat} {vl : Nat → Bool} {s : Nat} {S : List Nat} {lo : Nat} (h : SI dfn P i0 a0 b0 B0 k r i a b B T mt vl (s :: S) lo) (hE : k ≤ E ∧ k ≤ 4000 ∧ E ≤ 4000) (ht : r.2.2.1 < 600) : ∃ i' a' b' T' mt' vl' m m2 R, m_Model_scan_b414 n rc i j a b (b1 dfn) (nI N) (nI (S.length + 1)) (nI k) 93 (nI E) 1 0 = m_Model_scan_b629 n rc i' j a' b' (b1 dfn) (nI N) (nI S.length) (nI E) (nI r.2.2.1) ∧ SM dfn i0 a0 b0 B0 k E r i' a' b' B T' mt' vl' S lo ∧ b' 80 r.2.2.1 = 3 ∧ r.1 = 3 ∧ r.2.1 = m :: m2 :: R ∧ KSx T' mt' vl' lo S ((m2 ++ [tL m]) :: R) (r.2.2.1 + 1) := by
  obtain ⟨⟨hF, hb, hCO⟩, ⟨hr, hf⟩, ⟨h3, ⟨h4, h4'⟩, h5⟩, h6, h7⟩ := h
  have hst : r.1 = 3 := by
    rcases Nat.lt_or_ge r.1 3 with c | c
    · have := hr.2.2.2.2.2.1 c
      rw [List.length_cons] at h4
      omega
    · have := hr.1; omega
  obtain ⟨m, K', e1, hm, ⟨v1, v2, v3, v4, v5⟩, hk⟩ := h3 hst
  obtain ⟨m2, R, e2⟩ : ∃ m2 R, K' = m2 :: R := by
    have := (KSx_len _ _ _ hk).1
    cases K' with
    | nil => cases this
    | cons a b => exact ⟨a, b, rfl⟩
  subst e2
  have hsz : tSz (tL m) ≤ 5000 ∧ tSl (tL m) ≤ 8000 := by
    have q1 := hr.2.2.2.1
    have q2 := hCO.2.2.2.2.1
    have q3 : ∀ x ∈ m, tOk x 0 := hr.2.2.1 m (by rw [e1]; exact List.mem_cons_self)
    have q4 := sh_list m
    have q5 := (sz_sh _).1 (tOk_tL q3).1
    rw [e1, kSh] at q1
    unfold tSl
    omega
  obtain ⟨st, K, tok, D, cw, ci, fr, fk, fp⟩ := r
  dsimp only at *
  obtain ⟨c1, c2, c3, c4, c5, c6⟩ := id hCO
  have hB := c1.2.2.2.2
  have h82 : a 82 S.length = nI s := h5.1
  unfold m_Model_scan_b414
  rw [if_pos c3, c4, ob1_s, ob1_s, show nI tok + (1 : Int32) = nI (tok + 1) from nI_add _ 1, ob1_s, ck_n (by omega), ob1_s, cl_n (by omega), ck_n (by omega), sub_n (by omega), ob1_s, ck_n (by omega), ob1_s, if_neg (by decide)]
  unfold m_Model_scan_b506
  have es : nI (S.length + 1) + (-1 : Int32) = nI S.length := by
    rw [show nI (S.length + 1) = nI S.length + nI 1 from (nI_add _ _).symm, Int32.add_assoc, show nI 1 + (-1 : Int32) = 0 from by decide, Int32.add_zero]
  rw [List.length_cons] at h4'
  have h82' : tkA a tok k (E - k) 82 S.length = nI s := by rw [tkA_row (by decide)]; exact h82
  have h82'' : sv (sv (sv a 77 tok (nI k)) 78 tok (nI (E - k))) 79 tok (nI tok) 82 S.length = nI s := h82'
  rw [if_pos rfl, if_neg (by decide), ob1_s, es, ck_n (by omega), cl_n (by omega), h82'', ck_n (by omega), cl_n (by omega), ob1_s, ck_n (by omega), ob1_s]
  obtain ⟨a2, ea2⟩ : ∃ a2, a2 = sv (tkA a tok k (E - k)) 79 s (nI tok) := ⟨_, rfl⟩
  have hrow : ∀ q, q ∉ scR → a2 q = a q := fun q hq => by
    rw [ea2, sv_row (fun e => hq (by rw [e]; decide)), tkA_row ⟨fun e => hq (by rw [e]; decide), fun e => hq (by rw [e]; decide), fun e => hq (by rw [e]; decide)⟩]
  have h79 : ∀ x, x ≠ tok → x ≠ s → a2 79 x = a 79 x := fun x hx h2 => by rw [ea2, sv_ne h2, tkA_79n hx]
  have h79t : a2 79 tok = nI tok := by rw [ea2, sv_ne (by omega), tkA_79]
  have hsf : SF i a b B (upd i 81 (nI (tok + 1))) a2 (svl b 80 tok 3) B := SF_rows hB (fun q hq => i81_ne hq) hrow (fun q hq => svl_row hq)
  have hco : CO (upd i 81 (nI (tok + 1))) a2 (svl b 80 tok 3) B (gU (gU T s (tL m)) tok (tN 0)) (gU (gU mt s tok) tok tok) (gU vl tok false) (tok + 1) := CO_close hCO hsf.2.2.2.1 (rB_sc c1 (upd_ne (by decide)) (upd_ne (by decide)) (upd_ne (by decide)) (upd_ne (by decide))) (rC1_SF c2 hsf) ((upd_ne (by decide)).trans c3) upd_at ht (fun x hx h2 => h79 x (by omega) h2) (by rw [ea2, sv_at]) h79t (fun x hx => svl_ne (by omega)) svl_at v4 ⟨v1, v2, v5⟩ hm hsz
  have hag : ∀ q, q < s → gU (gU T s (tL m)) tok (tN 0) q = T q ∧ gU (gU mt s tok) tok tok q = mt q ∧ gU vl tok false q = vl q := fun q hq => ⟨by rw [gU_ne (by omega), gU_ne (by omega)], by rw [gU_ne (by omega), gU_ne (by omega)], gU_ne (by omega)⟩
  refine ⟨upd i 81 (nI (tok + 1)), a2, svl b 80 tok 3, gU (gU T s (tL m)) tok (tN 0), gU (gU mt s tok) tok tok, gU vl tok false, m, m2, R, by rw [ea2, cl_n (k := tok) (by omega)]; rfl, ⟨⟨SF_trans hF hsf, ⟨by have := hb.1; show B.1 + 1 ≤ B0.1 + 2 * (tok + 1); omega, by have := hb.2.1; omega, hb.2.2⟩, hco⟩, ⟨R82_up S h5.2 (fun q hq => by rw [ea2, sv_row (by decide), tkA_row (by decide)]), by omega⟩, by rw [ea2, sv_row (by decide), tkA_77], fun e => ?_, fun e => ⟨(upd_ne (by decide)).trans (h7 e).1, (h7 e).2⟩⟩, svl_at, hst, e1, ?_⟩
  · have hd := h6 e
    exact DD_up hd hsf.2.2.2.1 ⟨upd_ne (by decide), upd_ne (by decide), upd_ne (by decide)⟩ (Nat.le_refl _) (fun q q1 q2 => by rw [ea2, sv_row (by omega), tkA_row (by omega)]) (fun q hq => hag q (by omega))
  · have q := KSx_add (KSx_congr _ _ _ hk hag) (Or.inr ⟨by rw [gU_ne (by omega)]; exact v1, by rw [gU_ne (by omega), gU_at]; exact v4⟩)
    rw [gU_ne (show s ≠ tok by omega), gU_at, gU_ne (show s ≠ tok by omega), gU_at] at q
    exact q

