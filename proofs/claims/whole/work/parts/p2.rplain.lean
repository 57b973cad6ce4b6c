/-! the reference sets a number or a word down -/
theorem SI_28 {dfn : Bool} {P : List Proc} {i0 : Nat → Int32} {a0 : Nat → Nat → Int32} {b0 : Nat → Nat → Int64} {B0 : RB4} {k : Nat} {r : Rd} {i : Nat → Int32} {a : Nat → Nat → Int32} {b : Nat → Nat → Int64} {i' : Nat → Int32} {B : RB4} {T : Nat → Tr} {mt : Nat → Nat} {vl : Nat → Bool} {S : List Nat} {lo : Nat} (h : SI dfn P i0 a0 b0 B0 k r i a b B T mt vl S lo) (hi : ∀ x, x ≠ 28 → i' x = i x) : SI dfn P i0 a0 b0 B0 k r i' a b B T mt vl S lo := by
  obtain ⟨⟨hF, hb, c1, c2, c3, c4, c5⟩, hr, h3, h6, h7⟩ := h
  exact ⟨⟨⟨fun q hq => (hi q (fun e => hq (by rw [e]; decide))).trans (hF.1 q hq), hF.2⟩, hb, rB_sc c1 (hi 18 (by decide)) (hi 19 (by decide)) (hi 20 (by decide)) (hi 21 (by decide)), c2, (hi 75 (by decide)).trans c3, (hi 81 (by decide)).trans c4, c5⟩, hr, h3, fun e => ⟨⟨(hi 84 (by decide)).trans (h6 e).1.1, (hi 85 (by decide)).trans (h6 e).1.2.1, (hi 86 (by decide)).trans (h6 e).1.2.2⟩, (h6 e).2⟩, fun e => ⟨(hi 84 (by decide)).trans (h7 e).1, (h7 e).2⟩⟩
theorem rC1_word {a : Nat → Nat → Int32} {b : Nat → Nat → Int64} {B : RB4} {p Lt : Nat} {l : List Nat} {r : Nat → Int32} (hB : B.1 < 120000 ∧ B.2.1 ≤ 300000 ∧ B.2.2.1 ≤ 90000 ∧ B.2.2.2 ≤ 90000) (hL : B.2.1 ≤ Lt ∧ Lt ≤ 300000) (hr : ∀ x, x < B.2.1 → r x = a 1 x) (h0 : l ≠ []) (h30 : l.length ≤ 30) (hok : okLs l) (hp : p + l.length ≤ Lt) (hl : ∀ k (h : k < l.length), r (p + k) = nI (l[k]'h)) (h : rC1 a b B) :
    rUp a b B (wrA (updA a 1 r) B.1 p l.length) (svl b 9 B.1 3) (B.1 + 1, Lt, B.2.2.1, B.2.2.2) ∧ rW (wrA (updA a 1 r) B.1 p l.length) (B.1 + 1, Lt, B.2.2.1, B.2.2.2) B.1 l ∧ rC1 (wrA (updA a 1 r) B.1 p l.length) (svl b 9 B.1 3) (B.1 + 1, Lt, B.2.2.1, B.2.2.2) := by
  have hu := rUp_word (a := a) (b := b) (B := B) (p := p) (l := l.length) (Lt := Lt) (r := r) hB hL hr
  have hw : rW (wrA (updA a 1 r) B.1 p l.length) (B.1 + 1, Lt, B.2.2.1, B.2.2.2) B.1 l := rW_new hB.1 hL.2 h0 h30 hok hp (fun k hk => hl k hk)
  refine ⟨hu, hw, fun x hx => ?_⟩
  have hx : x < B.1 + 1 := hx
  rcases Nat.lt_or_ge x B.1 with c | c
  · obtain ⟨l', hl'⟩ := h x c
    exact ⟨l', rK_up hu (by show upd (a 7) B.1 0 x = _; rw [upd_ne (by omega)]) (by show vp_updL (b 9) B.1 3 x = _; rw [updL_ne (by omega)]) hl'⟩
  · have ex : x = B.1 := by omega
    subst ex
    exact ⟨l, hw, Or.inl (by show upd (a 7) B.1 0 B.1 = 0; rw [upd_at]), Or.inl (by show vp_updL (b 9) B.1 3 B.1 = 3; rw [updL_at])⟩
theorem wrA_row {a : Nat → Nat → Int32} {r : Nat → Int32} {W p l q : Nat} (h : q ≠ 1 ∧ q ≠ 3 ∧ q ≠ 4 ∧ q ≠ 7) : wrA (updA a 1 r) W p l q = a q := by
  unfold wrA
  rw [sv_row h.2.2.2, sv_row h.2.2.1, sv_row h.2.1]
  exact if_neg h.1
theorem SF_word {i : Nat → Int32} {a : Nat → Nat → Int32} {b : Nat → Nat → Int64} {i' : Nat → Int32} {B B' : RB4} {p l : Nat} {r : Nat → Int32} (hu : rUp a b B (wrA (updA a 1 r) B.1 p l) (svl b 9 B.1 3) B') (hi : ∀ q, q ∉ scI → i' q = i q) : SF i a b B i' (wrA (updA a 1 r) B.1 p l) (svl b 9 B.1 3) B' :=
  ⟨hi, fun q hq => wrA_row ⟨fun e => hq (by rw [e]; decide), fun e => hq (by rw [e]; decide), fun e => hq (by rw [e]; decide), fun e => hq (by rw [e]; decide)⟩, fun q q1 _ => svl_row q1, hu, fun x hx => ⟨by show upd (a 7) B.1 0 x = _; rw [upd_ne (by omega)], svl_ne (by omega)⟩⟩
theorem rV_word {a : Nat → Nat → Int32} {b : Nat → Nat → Int64} {B : RB4} {w : Nat} {l : List Nat} (h : rW a B w l) : rV a b B (tW l) none (vW w) := by
  cases l with
  | nil => exact absurd rfl h.2.2.2.1
  | cons c l => exact ⟨w, rfl, by rw [tLet_tW], by rw [tLet_tW]; exact h⟩
theorem rV_wordi {a : Nat → Nat → Int32} {b : Nat → Nat → Int64} {B : RB4} {l : List Nat} {v : Int64} (h : rV a b B (tW l) none v) (hl : l ≠ []) : ∃ w, v = vW w ∧ rW a B w l := by
  cases l with
  | nil => exact absurd rfl hl
  | cons c l =>
    obtain ⟨w, h1, h2, h3⟩ := h
    rw [tLet_tW] at h3
    exact ⟨w, h1, h3⟩
/-- the state once a value is set down -/
theorem SM_val {k E : Nat} {dfn : Bool} {P : List Proc} {i0 : Nat → Int32} {a0 : Nat → Nat → Int32} {b0 : Nat → Nat → Int64} {B0 : RB4} {r : Rd} {i : Nat → Int32} {a : Nat → Nat → Int32} {b : Nat → Nat → Int64} {i' : Nat → Int32} {a' : Nat → Nat → Int32} {b' : Nat → Nat → Int64} {B B' : RB4} {T : Nat → Tr} {mt : Nat → Nat} {vl : Nat → Bool} {S : List Nat} {lo : Nat} {v : Tr} (h : SI dfn P i0 a0 b0 B0 k r i a b B T mt vl S lo) (hsf : SF i a b B i' a' b' B') (hBd : B'.1 ≤ B.1 + 1 ∧ B'.2.1 + k ≤ B.2.1 + E ∧ B'.2.2 = B.2.2) (hB : rB i' B') (hC : rC1 a' b' B') (h75 : i' 75 = i 75) (h81 : i' 81 = nI (r.2.2.1 + 1)) (hi : i' 84 = i 84 ∧ i' 85 = i 85 ∧ i' 86 = i 86) (ht : r.2.2.1 < 600) (h79 : ∀ x, x < r.2.2.1 → a' 79 x = a 79 x) (h80 : ∀ x, x < r.2.2.1 → b' 80 x = b 80 x) (h82 : a' 82 = a 82) (h87 : ∀ q, 87 ≤ q → q ≤ 91 → a' q = a q) (h77 : a' 77 r.2.2.1 = nI k) (h79t : a' 79 r.2.2.1 = nI r.2.2.1) (hv : rV a' b' B' v none (b' 80 r.2.2.1)) (hl : isL v = false) : SM dfn i0 a0 b0 B0 k E r i' a' b' B' (gU T r.2.2.1 v) (gU mt r.2.2.1 r.2.2.1) (gU vl r.2.2.1 true) S lo ∧ (gU T r.2.2.1 v r.2.2.1 = v ∧ gU vl r.2.2.1 true r.2.2.1 = true ∧ gU mt r.2.2.1 r.2.2.1 r.2.2.1 = r.2.2.1 ∧ rV a' b' B' v none (b' 80 r.2.2.1)) ∧ (2 ≤ r.1 → KSx (gU T r.2.2.1 v) (gU mt r.2.2.1 r.2.2.1) (gU vl r.2.2.1 true) (loC r lo) S (aCI r).2.1 r.2.2.1) := by
  have hks := KS_CI h
  obtain ⟨⟨hF, hb, hCO⟩, ⟨hr, hf⟩, ⟨h3, ⟨h4, h4'⟩, h5⟩, h6, h7⟩ := h
  have hag : ∀ q, q < r.2.2.1 → gU T r.2.2.1 v q = T q ∧ gU mt r.2.2.1 r.2.2.1 q = mt q ∧ gU vl r.2.2.1 true q = vl q := fun q hq => ⟨gU_ne (by omega), gU_ne (by omega), gU_ne (by omega)⟩
  refine ⟨⟨⟨SF_trans hF hsf, ⟨by have := hb.1; omega, by have := hb.2.1; omega, hBd.2.2.trans hb.2.2⟩, CO_new hCO hsf.2.2.2.1 hB hC (h75.trans hCO.2.2.1) h81 ht h79 h80 (TOK_val h79t (by omega) hv hl)⟩, ⟨R82_up S h5 (fun q _ => by rw [h82]), h4'⟩, h77, fun e => ?_, fun e => ⟨hi.1.trans (h7 e).1, (h7 e).2⟩⟩, ⟨gU_at, gU_at, gU_at, hv⟩, fun e => KSx_congr _ _ _ (hks e) hag⟩
  have hd := h6 e
  exact DD_up hd hsf.2.2.2.1 hi (Nat.le_refl _) h87 (fun q hq => hag q (by have := hd.2.2.1; omega))
/-- a number -/
theorem r_tokN {n N k E c : Nat} {v7 : Int32} {z : Int} {dfn : Bool} {P : List Proc} {i0 : Nat → Int32} {a0 : Nat → Nat → Int32} {b0 : Nat → Nat → Int64} {B0 : RB4} {rc : (Nat → Int32) → (Nat → Int64) → (Nat → Nat → Int32) → (Nat → Nat → Int64) → Int32 → Int32 → Int32 → Int32 → Option ((Nat → Int32) × (Nat → Int64) × (Nat → Nat → Int32) × (Nat → Nat → Int64) × Int32)} {r : Rd} {i : Nat → Int32} {j : Nat → Int64} {a : Nat → Nat → Int32} {b : Nat → Nat → Int64} {B : RB4} {T : Nat → Tr} {mt : Nat → Nat} {vl : Nat → Bool} {S : List Nat} {lo : Nat} (h : SI dfn P i0 a0 b0 B0 k r i a b B T mt vl S lo) (hE : k ≤ E ∧ E ≤ 4000) (ht : r.2.2.1 < 600) (hc : c < 128 ∧ c ≠ 91 ∧ c ≠ 93) (hz : -1000000000 ≤ z ∧ z ≤ 1000000000) (h28 : i 28 = Int32.ofInt z) : ∃ i' a' b' B' T' mt' vl', m_Model_scan_b414 n rc i j a b (b1 dfn) (nI N) (nI S.length) (nI k) (nI c) (nI E) v7 1 = m_Model_scan_b629 n rc i' j a' b' (b1 dfn) (nI N) (nI S.length) (nI E) (nI r.2.2.1) ∧ SM dfn i0 a0 b0 B0 k E r i' a' b' B' T' mt' vl' S lo ∧ (T' r.2.2.1 = tN z ∧ vl' r.2.2.1 = true ∧ mt' r.2.2.1 = r.2.2.1 ∧ rV a' b' B' (tN z) none (b' 80 r.2.2.1)) ∧ (2 ≤ r.1 → KSx T' mt' vl' (loC r lo) S (aCI r).2.1 r.2.2.1) := by
  obtain ⟨c1, c2, c3, c4, c5, c6⟩ := id h.1.2.2
  have hB := c1.2.2.2.2
  have hsf : SF i a b B (upd i 81 (nI (r.2.2.1 + 1))) (tkA a r.2.2.1 k (E - k)) (svl b 80 r.2.2.1 (vN z)) B := SF_rows hB (fun q hq => i81_ne hq) (fun q hq => tkA_row ⟨fun e => hq (by rw [e]; decide), fun e => hq (by rw [e]; decide), fun e => hq (by rw [e]; decide)⟩) (fun q hq => svl_row hq)
  have key := SM_val (E := E) (v := tN z) h hsf ⟨Nat.le_succ _, by omega, rfl⟩ (rB_sc c1 (upd_ne (by decide)) (upd_ne (by decide)) (upd_ne (by decide)) (upd_ne (by decide))) (rC1_SF c2 hsf) (upd_ne (by decide)) upd_at ⟨upd_ne (by decide), upd_ne (by decide), upd_ne (by decide)⟩ ht (fun x hx => tkA_79n (by omega)) (fun x hx => svl_ne (by omega)) (tkA_row (by decide)) (fun q q1 q2 => tkA_row (by omega)) tkA_77 tkA_79 (by rw [svl_at]; exact ⟨rfl, hz.1, hz.2, rfl⟩) rfl
  generalize hg : r.2.2.1 = tok at *
  refine ⟨_, _, _, _, _, _, _, ?_, key⟩
  unfold m_Model_scan_b414
  rw [if_pos c3, c4, ob1_s, ob1_s, show nI tok + (1 : Int32) = nI (tok + 1) from nI_add _ 1, ob1_s, ck_n (by omega), ob1_s, cl_n (by omega), ck_n (by omega), sub_n (by omega), ob1_s, ck_n (by omega), ob1_s, show (91 : Int32) = nI 91 from rfl, ieq_n (by omega)]
  unfold m_Model_scan_b506 m_Model_scan_b547
  rw [show (93 : Int32) = nI 93 from rfl, ieq_n (by omega), if_pos rfl, upd_ne (by decide), h28, r_number hz.1 hz.2, ob0_s, ck_n (by omega), ob1_s, cl_n (by omega)]
  rfl
/-- a word -/
theorem r_tokW {n N k E c : Nat} {v7 : Int32} {l : List Nat} {dfn : Bool} {P : List Proc} {i0 : Nat → Int32} {a0 : Nat → Nat → Int32} {b0 : Nat → Nat → Int64} {B0 : RB4} {rc : (Nat → Int32) → (Nat → Int64) → (Nat → Nat → Int32) → (Nat → Nat → Int64) → Int32 → Int32 → Int32 → Int32 → Option ((Nat → Int32) × (Nat → Int64) × (Nat → Nat → Int32) × (Nat → Nat → Int64) × Int32)} {r : Rd} {i : Nat → Int32} {j : Nat → Int64} {a : Nat → Nat → Int32} {b : Nat → Nat → Int64} {B : RB4} {T : Nat → Tr} {mt : Nat → Nat} {vl : Nat → Bool} {S : List Nat} {lo : Nat} (h : SI dfn P i0 a0 b0 B0 k r i a b B T mt vl S lo) (hE : k ≤ E ∧ E ≤ 4000) (ht : r.2.2.1 < 600) (hc : c < 128 ∧ c ≠ 91 ∧ c ≠ 93) (hB0 : B0.1 + 1300 ≤ 120000 ∧ B0.2.1 + 4000 ≤ 300000) (hl : l.length = E - k) (hl0 : l ≠ []) (h30 : l.length ≤ 30) (hok : okLs l) (h73 : ∀ x (h : x < l.length), a 73 (k + x) = nI (l[x]'h)) : ∃ i' a' b' B' T' mt' vl', m_Model_scan_b414 n rc i j a b (b1 dfn) (nI N) (nI S.length) (nI k) (nI c) (nI E) v7 0 = m_Model_scan_b629 n rc i' j a' b' (b1 dfn) (nI N) (nI S.length) (nI E) (nI r.2.2.1) ∧ SM dfn i0 a0 b0 B0 k E r i' a' b' B' T' mt' vl' S lo ∧ (T' r.2.2.1 = tW l ∧ vl' r.2.2.1 = true ∧ mt' r.2.2.1 = r.2.2.1 ∧ ∃ w, b' 80 r.2.2.1 = vW w ∧ rW a' B' w l ∧ B0.1 ≤ w) ∧ (2 ≤ r.1 → KSx T' mt' vl' (loC r lo) S (aCI r).2.1 r.2.2.1) := by
  obtain ⟨c1, c2, c3, c4, c5, c6⟩ := id h.1.2.2
  have hle := h.1.1.2.2.2.1.1.1
  have hbd := h.1.2.1
  have hB := c1.2.2.2.2
  have hsf1 : SF i a b B (upd i 81 (nI (r.2.2.1 + 1))) (tkA a r.2.2.1 k l.length) b B := SF_rows hB (fun q hq => i81_ne hq) (fun q hq => tkA_row ⟨fun e => hq (by rw [e]; decide), fun e => hq (by rw [e]; decide), fun e => hq (by rw [e]; decide)⟩) (fun q hq => rfl)
  have hW : B.1 < 120000 := by have := hbd.1; omega
  have hLt : B.2.1 + l.length ≤ 300000 := by have := hbd.2.1; omega
  have h1 : (tkA a r.2.2.1 k l.length) 73 = a 73 := tkA_row (by decide)
  obtain ⟨w, ew⟩ : ∃ w, w = va_cpy (a 73) (tkA a r.2.2.1 k l.length 1) k B.2.1 l.length := ⟨_, rfl⟩
  obtain ⟨g1, g2, g3⟩ := rC1_word (a := tkA a r.2.2.1 k l.length) (b := b) (B := B) (p := B.2.1) (l := l) (Lt := B.2.1 + l.length) (r := w) ⟨hW, hB.2.1, hB.2.2.1, hB.2.2.2⟩ ⟨by omega, hLt⟩ (fun x hx => by rw [ew]; exact va_out (by omega)) hl0 h30 hok (Nat.le_refl _) (fun x hx => by rw [ew, va_in (by omega) (by omega), Nat.add_sub_cancel_left]; exact h73 x hx) (rC1_SF c2 hsf1)
  have hsf2 := SF_word (i := upd i 81 (nI (r.2.2.1 + 1))) (i' := upd (upd (upd i 81 (nI (r.2.2.1 + 1))) 19 (nI (B.1 + 1))) 18 (nI (B.2.1 + l.length))) g1 (fun q hq => by rw [upd_ne (fun e => hq (by rw [e]; decide)), upd_ne (fun e => hq (by rw [e]; decide))])
  have hsf3 : SF (upd (upd (upd i 81 (nI (r.2.2.1 + 1))) 19 (nI (B.1 + 1))) 18 (nI (B.2.1 + l.length))) (wrA (updA (tkA a r.2.2.1 k l.length) 1 w) B.1 B.2.1 l.length) (svl b 9 B.1 3) (B.1 + 1, B.2.1 + l.length, B.2.2.1, B.2.2.2) (upd (upd (upd i 81 (nI (r.2.2.1 + 1))) 19 (nI (B.1 + 1))) 18 (nI (B.2.1 + l.length))) (wrA (updA (tkA a r.2.2.1 k l.length) 1 w) B.1 B.2.1 l.length) (svl (svl b 9 B.1 3) 80 r.2.2.1 (vW B.1)) (B.1 + 1, B.2.1 + l.length, B.2.2.1, B.2.2.2) := SF_rows ⟨hW, hLt, hB.2.2.1, hB.2.2.2⟩ (fun _ _ => rfl) (fun _ _ => rfl) (fun q hq => svl_row hq)
  have hrow : ∀ q, q ≠ 1 ∧ q ≠ 3 ∧ q ≠ 4 ∧ q ≠ 7 → wrA (updA (tkA a r.2.2.1 k l.length) 1 w) B.1 B.2.1 l.length q = tkA a r.2.2.1 k l.length q := fun q hq => wrA_row hq
  have hq : ∀ q, q ≠ 18 → q ≠ 19 → q ≠ 81 → upd (upd (upd i 81 (nI (r.2.2.1 + 1))) 19 (nI (B.1 + 1))) 18 (nI (B.2.1 + l.length)) q = i q := fun q q1 q2 q3 => by rw [upd_ne q1, upd_ne q2, upd_ne q3]
  have key := SM_val (E := E) (v := tW l) h (SF_trans (SF_trans hsf1 hsf2) hsf3) ⟨Nat.le_refl _, by show B.2.1 + l.length + k ≤ B.2.1 + E; omega, rfl⟩ ⟨by rw [upd_ne (by decide), upd_at], by rw [upd_at], (hq 21 (by decide) (by decide) (by decide)).trans c1.2.2.1, (hq 20 (by decide) (by decide) (by decide)).trans c1.2.2.2.1, hW, hLt, hB.2.2.1, hB.2.2.2⟩ (rC1_SF g3 hsf3) (hq 75 (by decide) (by decide) (by decide)) (by rw [upd_ne (by decide), upd_ne (by decide), upd_at]) ⟨hq 84 (by decide) (by decide) (by decide), hq 85 (by decide) (by decide) (by decide), hq 86 (by decide) (by decide) (by decide)⟩ ht (fun x hx => by rw [hrow 79 (by decide)]; exact tkA_79n (by omega)) (fun x hx => by rw [svl_ne (by omega)]; rfl) (by rw [hrow 82 (by decide)]; exact tkA_row (by decide)) (fun q q1 q2 => by rw [hrow q (by omega)]; exact tkA_row (by omega)) (by rw [hrow 77 (by decide)]; exact tkA_77) (by rw [hrow 79 (by decide)]; exact tkA_79) (by rw [svl_at]; exact rV_word g2) (isL_tW l)
  generalize hg : r.2.2.1 = tok at *
  refine ⟨_, _, _, _, _, _, _, ?_, key.1, ⟨key.2.1.1, key.2.1.2.1, key.2.1.2.2.1, B.1, svl_at, g2, hle⟩, key.2.2⟩
  unfold m_Model_scan_b414
  rw [if_pos c3, c4, ob1_s, ob1_s, show nI tok + (1 : Int32) = nI (tok + 1) from nI_add _ 1, ob1_s, ck_n (by omega), ob1_s, cl_n (by omega), ck_n (by omega), sub_n (by omega), ob1_s, ck_n (by omega), ob1_s, show (91 : Int32) = nI 91 from rfl, ieq_n (by omega)]
  unfold m_Model_scan_b506 m_Model_scan_b547
  rw [show (93 : Int32) = nI 93 from rfl, ieq_n (by omega), if_neg (by decide), upd_ne (by decide), c1.2.1, sub_n (by omega), ← hl]
  have et : sv (sv (sv a 77 tok (nI k)) 78 tok (nI l.length)) 79 tok (nI tok) = tkA a tok k l.length := rfl
  rw [et, cy_n (by omega), cyb_ok (by omega) (by omega) (fun x hx => by rw [h1]; exact ⟨_, Nat.lt_succ_of_le (Nat.le_succ_of_le (hok _ (List.getElem_mem hx)).2), h73 x hx⟩), ob1_s, cl_n (by omega), cl_n (by omega), cl_n (by omega), h1, ← ew, r_newWord ((upd_ne (by decide)).trans c1.1) hW, om_s, r_wordValue (by omega), ob0_s, ck_n (by omega), ob1_s, cl_n (by omega), ob1_s, ob1_s, upd_ne (by decide), upd_ne (by decide), c1.2.1, nI_add]

