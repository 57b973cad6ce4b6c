/-! words that begin with a quote, in the reference -/
/-- words there are, and may come -/
def phi (a : Nat → Nat → Int32) (b : Nat → Nat → Int64) : Nat → Nat
  | 0 => 0
  | n + 1 => phi a b n + (1 + if b 9 n = 3 then (a 4 n).toNatClampNeg - 1 else 0)
theorem phi_congr {a a' : Nat → Nat → Int32} {b b' : Nat → Nat → Int64} : ∀ (n : Nat), (∀ x, x < n → a' 4 x = a 4 x ∧ b' 9 x = b 9 x) → phi a' b' n = phi a b n := by
  intro n
  induction n with
  | zero => intro _; rfl
  | succ n ih =>
    intro h
    obtain ⟨e1, e2⟩ := h n (by omega)
    show phi a' b' n + _ = phi a b n + _
    rw [ih (fun x hx => h x (by omega)), e1, e2]
theorem phi_ge {a : Nat → Nat → Int32} {b : Nat → Nat → Int64} : ∀ (n : Nat), n ≤ phi a b n ∧ ∀ x, x < n → b 9 x = 3 → n + ((a 4 x).toNatClampNeg - 1) ≤ phi a b n := by
  intro n
  induction n with
  | zero => exact ⟨Nat.le_refl 0, fun x hx => absurd hx (Nat.not_lt_zero x)⟩
  | succ n ih =>
    obtain ⟨h1, h2⟩ := ih
    have e : phi a b (n + 1) = phi a b n + (1 + if b 9 n = 3 then (a 4 n).toNatClampNeg - 1 else 0) := rfl
    refine ⟨by omega, fun x hx hb => ?_⟩
    rcases Nat.lt_or_ge x n with c | c
    · have := h2 x c hb
      omega
    · have ex : x = n := by omega
      subst ex
      rw [e, if_pos hb]
      omega
theorem phi_set {a : Nat → Nat → Int32} {b : Nat → Nat → Int64} {x : Nat} {v : Int64} (hv : v ≠ 3) (hb : b 9 x = 3) : ∀ (n : Nat), x < n → phi a (svl b 9 x v) n + ((a 4 x).toNatClampNeg - 1) = phi a b n := by
  have e9 : ∀ y, svl b 9 x v 9 y = vp_updL (b 9) x v y := fun _ => rfl
  intro n
  induction n with
  | zero => intro h; exact absurd h (Nat.not_lt_zero x)
  | succ n ih =>
    intro h
    show phi a (svl b 9 x v) n + (1 + if svl b 9 x v 9 n = 3 then (a 4 n).toNatClampNeg - 1 else 0) + _ = phi a b n + (1 + if b 9 n = 3 then (a 4 n).toNatClampNeg - 1 else 0)
    rw [e9]
    rcases Nat.lt_or_ge x n with c | c
    · rw [updL_ne (by omega)]
      have := ih c
      omega
    · have ex : x = n := by omega
      subst ex
      rw [updL_at, if_neg hv, if_pos hb, phi_congr (b := b) x (fun y hy => ⟨rfl, by rw [e9, updL_ne (by omega)]⟩)]
      omega
theorem rW_fun {a : Nat → Nat → Int32} {B : RB4} {x : Nat} {l r : List Nat} (h : rW a B x l) (h' : rW a B x r) : l = r := by
  obtain ⟨h1, h2, h3, h4, h5, h6, h7, p, h8, h9, h10⟩ := h
  obtain ⟨g1, g2, g3, g4, g5, g6, g7, q, g8, g9, g10⟩ := h'
  have el : l.length = r.length := (nI_eq (by omega) (by omega)).mp (h7.symm.trans g7)
  have ep : p = q := (nI_eq (by omega) (by omega)).mp (h8.symm.trans g8)
  subst ep
  refine List.ext_getElem el (fun k k1 k2 => ?_)
  have b1' := (h6 _ (List.getElem_mem k1)).2
  have b2' := (g6 _ (List.getElem_mem k2)).2
  exact (nI_eq (by omega) (by omega)).mp ((h10 k k1).symm.trans (g10 k k2))
/-- what the reference knows of its words -/
def rK (a : Nat → Nat → Int32) (b : Nat → Nat → Int64) (B : RB4) (x : Nat) (l : List Nat) : Prop := rW a B x l ∧ rPm a x l ∧ (b 9 x = 3 ∨ ∃ t, aQuote l = .ok (some t) ∧ rV a b B t none (b 9 x))
def rC (a : Nat → Nat → Int32) (b : Nat → Nat → Int64) (B : RB4) : Prop := (∀ x, x < B.1 → ∃ l, rK a b B x l) ∧ phi a b B.1 ≤ B.2.1
theorem rC_at {a : Nat → Nat → Int32} {b : Nat → Nat → Int64} {B : RB4} {x : Nat} {l : List Nat} (h : rC a b B) (hw : rW a B x l) : rK a b B x l := by
  obtain ⟨r, h1⟩ := h.1 x hw.1
  have := rW_fun hw h1.1
  subst this
  exact h1
theorem rK_up {a a' : Nat → Nat → Int32} {b b' : Nat → Nat → Int64} {B B' : RB4} {x : Nat} {l : List Nat} (hu : rUp a b B a' b' B') (h7 : a' 7 x = a 7 x) (h9 : b' 9 x = b 9 x) (h : rK a b B x l) : rK a' b' B' x l := by
  obtain ⟨h1, h2, h3⟩ := h
  refine ⟨rW_up hu h1, ?_, ?_⟩
  · unfold rPm; rw [h7]; exact h2
  · rw [h9]
    exact h3.elim Or.inl (fun ⟨t, k1, k2⟩ => Or.inr ⟨t, k1, (rV_up hu t).1 _ k2⟩)
theorem i64_ne3 {z : Int} (h : -9000000000000000000 ≤ z ∧ z ≤ 9000000000000000000) (h3 : z ≠ 3) : Int64.ofInt z ≠ 3 := fun e => h3 ((v_ne h (by decide)).mp e)
theorem rV_ne3 {a : Nat → Nat → Int32} {b : Nat → Nat → Int64} {B : RB4} {t : Tr} {v : Int64} (h : rV a b B t none v) : v ≠ 3 := fun e => rV_no3 h (by rw [e]; decide)
theorem r_quoted {n : Nat} {i : Nat → Int32} {j : Nat → Int64} {a : Nat → Nat → Int32} {b : Nat → Nat → Int64} {B : RB4} {x : Nat} {l : List Nat} (hn : 1000 ≤ n) (hw : rW a B x l) (hi : rB i B) (hC : rC a b B) (hr : B.2.1 ≤ 119000) :
    ∃ i' a' b' B' v, m_Model_quoted n i j a b (nI x) = some (i', j, a', b', v) ∧ rUp a b B a' b' B' ∧ rB i' B' ∧ rC a' b' B' ∧ B'.2 = B.2 ∧ (∀ q, q ≠ 3 → q ≠ 4 → q ≠ 7 → a' q = a q) ∧ (∀ q, q ≠ 9 → b' q = b q) ∧
      ((∃ e, aQuote l = .error e ∧ v = 3 ∧ i' 102 = 2 ∧ i' 126 = nI e ∧ ∀ q, q ≠ 19 → q ≠ 28 → q ≠ 102 → q ≠ 126 → i' q = i q) ∨ (∃ t, aQuote l = .ok (some t) ∧ rV a' b' B' t none v ∧ ∀ q, q ≠ 19 → q ≠ 28 → i' q = i q)) := by
  obtain ⟨h1, h2, h3, h4, h5, h6, h7, p, h8, h9, h10⟩ := id hw
  obtain ⟨j1, j2, j3, j4, j5, j6, j7, j8⟩ := hi
  have hB : B.1 ≤ 120000 ∧ B.2.1 ≤ 300000 ∧ B.2.2.1 ≤ 90000 ∧ B.2.2.2 ≤ 90000 := ⟨j5, j6, j7, j8⟩
  have hu0 : rUp a b B a b B := rUp_b rfl hB
  have hl1 : 1 ≤ l.length := List.length_pos_iff.mpr h4
  have hK := rC_at hC hw
  unfold m_Model_quoted
  rw [ck_n (by omega), cl_n (by omega), h7, show (1 : Int32) = nI 1 from rfl]
  rcases Classical.em (l.length = 1) with c | c
  · have ht : l.tail = [] := List.length_eq_zero_iff.mp (by rw [List.length_tail]; omega)
    rw [ieq_p c, show (3 : Int32) = nI 3 from rfl, r_fails, om_s]
    refine ⟨_, a, b, B, 3, rfl, hu0, ⟨j1, j2, j3, j4, hB⟩, hC, rfl, fun _ _ _ _ => rfl, fun _ _ => rfl, Or.inl ⟨3, ?_, rfl, rfl, rfl, fun q _ _ h1 h2 => ?_⟩⟩
    · unfold aQuote; rw [if_pos ht]
    · unfold rFail; rw [upd_ne h2, upd_ne h1]
  · have htl : l.tail ≠ [] := fun e => c (by
      have := List.length_tail (l := l)
      rw [e] at this
      simp at this
      omega)
    have hlt : l.tail.length = l.length - 1 := List.length_tail
    rw [ieq_n ⟨c, by omega, by omega⟩, ck_n (by omega)]
    rcases Classical.em (b 9 x = 3) with d | d
    · have htr : ∀ k (h : k < l.tail.length), a 1 (p + 1 + k) = nI (l.tail[k]'h) := fun k hk => by
        rw [Nat.add_assoc, Nat.add_comm 1 k, h10 (k + 1) (by omega), List.getElem_tail]
      have htok : okLs l.tail := fun c hc => h6 c (List.mem_of_mem_tail hc)
      obtain ⟨i1, n1, n2, n3⟩ := r_num_v1 (n := n) (i := i) (j := j) (b := b) (p := p + 1) (l := l.tail) (by omega) (by omega) (by omega) (fun c hc => (htok c hc).2) htr
      have hq : aQuote l = match aPar l.tail with
        | (0, _) => .ok (some (tW l.tail))
        | (1, k) => .ok (some (tN k))
        | _ => .error 9 := by unfold aQuote; rw [if_neg htl]; rfl
      rw [if_pos (show lg_cmp (b 9 x) 3 = 0 by rw [d]; decide), ck_n (by omega), ck_n (by omega), h8, nI_add, sub_n (by omega), ← hlt, n1, om_s]
      rcases aPar_cases l.tail with e | e | ⟨k, e, k1, k2⟩
      · rw [e] at hq ⊢
        have hq : aQuote l = .ok (some (tW l.tail)) := hq
        have hph := (phi_ge (a := a) (b := b) B.1).2 x h1 d
        have hc2 := hC.2
        rw [h7, cl_n (by omega)] at hph
        have hW : B.1 < 120000 := by omega
        have hu1 : rUp a b B (wrA a B.1 (p + 1) l.tail.length) (svl b 9 B.1 3) (B.1 + 1, B.2.1, B.2.2.1, B.2.2.2) := by
          have := rUp_word (a := a) (b := b) (B := B) (p := p + 1) (l := l.tail.length) (Lt := B.2.1) (r := a 1) ⟨hW, j6, j7, j8⟩ ⟨Nat.le_refl _, j6⟩ (fun _ _ => rfl)
          rw [show updA a 1 (a 1) = a from by funext q; unfold updA; split <;> simp_all] at this
          exact this
        have hwn : rW (wrA a B.1 (p + 1) l.tail.length) (B.1 + 1, B.2.1, B.2.2.1, B.2.2.2) B.1 l.tail := rW_new hW j6 htl (by omega) htok (by omega) htr
        have hu2 : rUp (wrA a B.1 (p + 1) l.tail.length) (svl b 9 B.1 3) (B.1 + 1, B.2.1, B.2.2.1, B.2.2.2) (wrA a B.1 (p + 1) l.tail.length) (svl (svl b 9 B.1 3) 9 x (vW B.1)) (B.1 + 1, B.2.1, B.2.2.1, B.2.2.2) := rUp_b (svl_10 (by decide)) ⟨hW, j6, j7, j8⟩
        have hu := rUp_trans hu1 hu2
        have hvn : rV (wrA a B.1 (p + 1) l.tail.length) (svl (svl b 9 B.1 3) 9 x (vW B.1)) (B.1 + 1, B.2.1, B.2.2.1, B.2.2.2) (tW l.tail) none (vW B.1) := rV_tW.mpr ⟨B.1, rfl, hwn⟩
        have e9 : ∀ y, svl (svl b 9 B.1 3) 9 x (vW B.1) 9 y = vp_updL (vp_updL (b 9) B.1 3) x (vW B.1) y := fun _ => rfl
        have i19 : i1 19 = nI B.1 := (n2 19 (by decide)).trans j1
        refine ⟨upd i1 19 (nI (B.1 + 1)), wrA a B.1 (p + 1) l.tail.length, svl (svl b 9 B.1 3) 9 x (vW B.1), (B.1 + 1, B.2.1, B.2.2.1, B.2.2.2), vW B.1, ?_, hu, ⟨upd_at, (n2 18 (by decide)).trans j2, (n2 21 (by decide)).trans j3, (n2 20 (by decide)).trans j4, hW, j6, j7, j8⟩, ⟨fun y hy => ?_, ?_⟩, rfl, fun q q1 q2 q3 => ?_, fun q hq => ?_, Or.inr ⟨tW l.tail, hq, hvn, fun q q1 q2 => (upd_ne q1).trans (n2 q q2)⟩⟩
        · rw [show nI ((0, 0) : Nat × Int).1 = nI 0 from rfl, if_neg (show ¬ nI 0 = (2 : Int32) by decide), if_neg (show ¬ nI 0 = nI 1 by decide), ck_n (by omega), ck_n (by omega), h8, h7, nI_add, sub_n (by omega), ← hlt, r_newWord i19 hW, om_s, r_wordValue (by omega), ob0_s]
          unfold m_Model_quoted_b109 m_Model_quoted_b110
          rw [ck_n (by omega), ob1_s, cl_n (by omega), ck_n (by omega), e9, updL_at]
        · have hy : y < B.1 + 1 := hy
          rcases Nat.lt_or_ge y B.1 with c1 | c1
          · obtain ⟨r, g1⟩ := hC.1 y c1
            rcases Classical.em (y = x) with c2 | c2
            · subst c2
              have er : r = l := rW_fun g1.1 hw
              subst er
              refine ⟨r, rW_up hu hw, ?_, Or.inr ⟨tW r.tail, hq, ?_⟩⟩
              · have : wrA a B.1 (p + 1) r.tail.length 7 y = a 7 y := by
                  show upd (a 7) B.1 0 y = _
                  rw [upd_ne (by omega)]
                unfold rPm; rw [this]; exact g1.2.1
              · rw [e9, updL_at]; exact hvn
            · exact ⟨r, rK_up hu (by show upd (a 7) B.1 0 y = _; rw [upd_ne (by omega)]) (by rw [e9, updL_ne c2, updL_ne (by omega)]) g1⟩
          · have ey : y = B.1 := by omega
            subst ey
            exact ⟨l.tail, hwn, Or.inl (by show upd (a 7) B.1 0 B.1 = 0; rw [upd_at]), Or.inl (by rw [e9, updL_ne (by omega), updL_at])⟩
        · show phi _ _ (B.1 + 1) ≤ B.2.1
          have f1 := phi_set (a := wrA a B.1 (p + 1) l.tail.length) (b := svl b 9 B.1 3) (x := x) (v := vW B.1) (rV_ne3 hvn) (by show vp_updL (b 9) B.1 3 x = 3; rw [updL_ne (by omega)]; exact d) (B.1 + 1) (by omega)
          have f2 : phi (wrA a B.1 (p + 1) l.tail.length) (svl b 9 B.1 3) (B.1 + 1) = phi a b B.1 + (1 + (l.tail.length - 1)) := by
            show phi _ _ B.1 + (1 + if vp_updL (b 9) B.1 3 B.1 = 3 then (upd (a 4) B.1 (nI l.tail.length) B.1).toNatClampNeg - 1 else 0) = _
            rw [updL_at, if_pos rfl, upd_at, cl_n (by omega), phi_congr (a := a) (b := b) B.1 (fun y hy => ⟨by show upd (a 4) B.1 _ y = _; rw [upd_ne (by omega)], by show vp_updL (b 9) B.1 3 y = _; rw [updL_ne (by omega)]⟩)]
          have f3 : wrA a B.1 (p + 1) l.tail.length 4 x = nI l.length := by
            show upd (a 4) B.1 _ x = _
            rw [upd_ne (by omega)]; exact h7
          rw [f3, cl_n (by omega)] at f1
          omega
        · unfold wrA sv
          rw [updA_ne q3, updA_ne q2, updA_ne q1]
        · rw [show svl (svl b 9 B.1 3) 9 x (vW B.1) q = svl b 9 B.1 3 q from updB_ne hq]
          exact updB_ne hq
      · rw [e] at hq ⊢
        have hq : aQuote l = .error 9 := hq
        rw [show nI ((2, 0) : Nat × Int).1 = (2 : Int32) from rfl, if_pos rfl, show (9 : Int32) = nI 9 from rfl, r_fails, om_s]
        refine ⟨_, a, b, B, 3, rfl, hu0, ⟨(n2 19 (by decide)).trans j1, (n2 18 (by decide)).trans j2, (n2 21 (by decide)).trans j3, (n2 20 (by decide)).trans j4, hB⟩, hC, rfl, fun _ _ _ _ => rfl, fun _ _ => rfl, Or.inl ⟨9, hq, rfl, rfl, rfl, fun q _ q2 q3 q4 => ?_⟩⟩
        unfold rFail
        rw [upd_ne q4, upd_ne q3]
        exact n2 q q2
      · rw [e] at hq n3 ⊢
        have hq : aQuote l = .ok (some (tN k)) := hq
        have hvn : rV a (svl b 9 x (vN k)) B (tN k) none (vN k) := rV_tN.mpr ⟨k1, k2, rfl⟩
        have hu : rUp a b B a (svl b 9 x (vN k)) B := rUp_b (svl_10 (by decide)) hB
        have e9 : ∀ y, svl b 9 x (vN k) 9 y = vp_updL (b 9) x (vN k) y := fun _ => rfl
        refine ⟨i1, a, svl b 9 x (vN k), B, vN k, ?_, hu, ⟨(n2 19 (by decide)).trans j1, (n2 18 (by decide)).trans j2, (n2 21 (by decide)).trans j3, (n2 20 (by decide)).trans j4, hB⟩, ⟨fun y hy => ?_, ?_⟩, rfl, fun _ _ _ _ => rfl, fun q hq => updB_ne hq, Or.inr ⟨tN k, hq, hvn, fun q _ q2 => n2 q q2⟩⟩
        · rw [show nI ((1, k) : Nat × Int).1 = nI 1 from rfl, if_neg (show ¬ nI 1 = (2 : Int32) by decide), if_pos rfl, n3 rfl, r_number k1 k2, ob0_s]
          unfold m_Model_quoted_b109 m_Model_quoted_b110
          rw [ck_n (by omega), ob1_s, cl_n (by omega), ck_n (by omega), e9, updL_at]
        · obtain ⟨r, g1⟩ := hC.1 y hy
          rcases Classical.em (y = x) with c2 | c2
          · subst c2
            have er : r = l := rW_fun g1.1 hw
            subst er
            exact ⟨r, hw, g1.2.1, Or.inr ⟨tN k, hq, by rw [e9, updL_at]; exact hvn⟩⟩
          · exact ⟨r, rK_up hu rfl (by rw [e9, updL_ne c2]) g1⟩
        · have f1 := phi_set (a := a) (b := b) (x := x) (v := vN k) (rV_ne3 hvn) d B.1 h1
          have := hC.2
          omega
    · obtain ⟨t, k1, k2⟩ := hK.2.2.elim (fun e => absurd e d) id
      rw [if_neg (rV_no3 k2)]
      unfold m_Model_quoted_b110
      rw [ck_n (by omega), cl_n (by omega)]
      exact ⟨i, a, b, B, b 9 x, rfl, hu0, ⟨j1, j2, j3, j4, hB⟩, hC, rfl, fun _ _ _ _ => rfl, fun _ _ => rfl, Or.inr ⟨t, k1, k2, fun _ _ _ => rfl⟩⟩

