/-! the reference reads what is told: inputs, bodies, ends -/
theorem i66 {n tok x v : Nat} {l : List Nat} {ins : List Nm} {i : Nat → Int32} {j : Nat → Int64} {a : Nat → Nat → Int32} {b : Nat → Nat → Int64} {B : RB4} (hn : 100 ≤ n) (hx : x ≤ 200) (hI : INS a B x ins) (hw : rW a B v l) : ∀ (m y f : Nat), y + m = ins.length → m < f → (∀ p ∈ ins.take y, p ≠ l) → m_Model_input_b66 n f i j a b (nI tok) (nI x) 0 (nI v) (nI y) = m_Model_input_b107 n i j a b (nI tok) (nI x) (b1 (decide (l ∈ ins))) (nI v) := by
  obtain ⟨h1, h2, h3⟩ := hI
  intro m
  induction m with
  | zero =>
    intro y f e hf hp
    obtain ⟨f, rfl⟩ : ∃ f', f = f' + 1 := ⟨f - 1, by omega⟩
    rw [m_Model_input_b66, ck_n (by omega), cl_n (by omega), h1, ile_p (by omega)]
    rw [show y = ins.length by omega, List.take_length] at hp
    rw [decide_eq_false (fun q => hp l q rfl)]
    rfl
  | succ m ih =>
    intro y f e hf hp
    obtain ⟨f, rfl⟩ : ∃ f', f = f' + 1 := ⟨f - 1, by omega⟩
    obtain ⟨z, k1, k2⟩ := h3 y (by omega)
    rw [m_Model_input_b66, ck_n (by omega), cl_n (by omega), h1, ile_n (by omega), if_pos rfl, show (5 : Int32) * nI x = nI (5 * x) from pk_mul 5 x, nI_add, ck_n (by omega), cl_n (by omega), k1, r_sameWord hn k2 hw, ob0_s, ob1_s, show nI y + (1 : Int32) = nI (y + 1) from nI_add _ 1]
    rcases Classical.em (ins[y] = l) with c | c
    · rw [decide_eq_true c, decide_eq_true (show l ∈ ins from c ▸ List.getElem_mem _)]
      obtain ⟨f, rfl⟩ : ∃ f', f = f' + 1 := ⟨f - 1, by omega⟩
      rw [m_Model_input_b66, ck_n (by omega), cl_n (by omega), h1]
      rcases Nat.lt_or_ge (y + 1) ins.length with c2 | c2
      · rw [ile_n (by omega), if_neg (by decide)]
      · rw [ile_p (by omega)]
    · rw [decide_eq_false c]
      exact ih (y + 1) f (by omega) (by omega) (fun p hp2 => by
        rw [List.take_add_one, List.mem_append] at hp2
        rcases hp2 with hp2 | hp2
        · exact hp p hp2
        · rw [List.getElem?_eq_getElem (by omega)] at hp2
          have : p = ins[y] := by simpa using hp2
          rw [this]; exact c)
theorem upd_self1 (a : Nat → Nat → Int32) : updA a 1 (a 1) = a := by
  funext q
  unfold updA
  split
  · next h => rw [h]
  · rfl
/-- an input -/
theorem r_dwi {n : Nat} {k E st tok fr fp lo : Nat} {K : List (List Tr)} {D : List Proc} {cw : Nm} {ci : List Nm} {P : List Proc} {w : Nat} {l : List Nat} {i0 : Nat → Int32} {a0 : Nat → Nat → Int32} {b0 : Nat → Nat → Int64} {B0 : RB4} {i : Nat → Int32} {j : Nat → Int64} {a : Nat → Nat → Int32} {b : Nat → Nat → Int64} {B : RB4} {T : Nat → Tr} {mt : Nat → Nat} {vl : Nat → Bool} {S : List Nat} (hn : 1000 ≤ n) (h : SM true i0 a0 b0 B0 k E (st, K, tok, D, cw, ci, fr, 0, fp) i a b B T mt vl S lo) (hr : RI true P k (st, K, tok, D, cw, ci, fr, 0, fp)) (hB0 : B0.1 + 1300 ≤ 120000) (hw : rW a B w l) (hst : st = 2) (h58 : aLex l = 87) : DO (m_Model_definition_b52 n i j a b (nI tok) 1 (nI w)) j i0 a0 b0 B0 E (aPlain true P k (tW l) (st, K, tok + 1, D, cw, ci, fr, 0, fp)) T mt vl S lo ∧ (aPlain true P k (tW l) (st, K, tok + 1, D, cw, ci, fr, 0, fp)).1 = 2 := by
  subst hst
  obtain ⟨ins, eK, _, _⟩ := hr.2.2.2.2.2.2.2.1 rfl
  have eK : K = [ins.map tW] := eK
  subst eK
  have em2 : (ins.map tW).map tLet = ins := by
    rw [List.map_map]
    conv => rhs; rw [← List.map_id ins]
    apply List.map_congr_left
    intro w _
    exact tLet_tW w
  have eI : rdI (2, [ins.map tW], tok, D, cw, ci, fr, 0, fp) = ins := em2
  obtain ⟨⟨hF, hbd, hCO⟩, ⟨h82, hS⟩, h77, hD, _⟩ := h
  have hD := hD rfl
  dsimp only at hbd hCO h77 hD
  rw [eI] at hD
  have hB := hCO.1.2.2.2.2
  have htok : tok < 600 := by have := hCO.2.2.2.2.1; omega
  obtain ⟨⟨d1, d2, d3⟩, d4, d5, d6, d7, d8⟩ := hD
  obtain ⟨⟨⟨y, y1, y2⟩, y3⟩, hI⟩ := d7 (Nat.le_refl _)
  obtain ⟨w1, w2, w3, w4, w5, w6, w7, p, w8, w9, w10⟩ := id hw
  obtain ⟨c, t, el⟩ : ∃ c t, l = c :: t := by
    cases l with
    | nil => exact absurd rfl w4
    | cons c t => exact ⟨c, t, rfl⟩
  have hc : c = 58 := (lex87 c t).mp (el ▸ h58)
  have hlen : l.length = t.length + 1 := by rw [el]; rfl
  unfold aPlain
  dsimp only
  rw [if_neg (by decide), if_neg (by decide), if_pos ⟨rfl, (aMean_tW l w4).trans h58⟩]
  unfold aInput
  dsimp only
  rw [show (([ins.map tW] : List (List Tr)).headD []) = ins.map tW from rfl, em2, List.length_map, tLet_tW]
  have et : l.tail = t := by rw [el]; rfl
  rw [et]
  unfold m_Model_definition_b52
  have hl0 : a 1 p = nI 58 := by
    have := w10 0 (by omega)
    rw [Nat.add_zero] at this
    rw [this]
    simp only [el, List.getElem_cons_zero, hc]
  rw [d1, if_neg (by decide), if_neg (by decide), if_pos (by decide), if_neg (by decide), ck_n (by omega), cl_n (by omega), w8, ck_n (by omega), cl_n (by omega), hl0, if_pos (by decide)]
  unfold m_Model_input
  rw [d3, ob1_s, ck_n (by omega), cl_n (by omega), w7, show (1 : Int32) = nI 1 from rfl]
  have hI1 := hI.1
  have hI2 := hI.2.1
  have bad1 : ∃ i', m_Model_input_b25 n i j a b (nI tok) (nI w) (nI D.length) = some (i', j, a, b, 0) ∧ (∀ q, q ∉ scI → i' q = i q) ∧ i' 75 = nI 9 ∧ i' 76 = nI k := by
    unfold m_Model_input_b25 m_Model_input_b30 m_Model_input_b61
    rw [if_neg (by decide)]
    obtain ⟨n, rfl⟩ : ∃ n', n = n' + 1 := ⟨n - 1, by omega⟩
    have e107 : m_Model_input_b107 (n + 1) i j a b (nI tok) (nI D.length) 1 0 = some (upd (upd i 75 9) 76 (nI k), j, a, b, 0) := by
      unfold m_Model_input_b107
      rw [if_neg (by decide), ck_n (by omega), cl_n (by omega), h77, r_fail hCO.2.2.1, om_s]
    rw [m_Model_input_b66, ck_n (by omega), cl_n (by omega), hI1, if_neg (show ¬ (1 : Int32) = 0 by decide), e107, ite_self]
    exact ⟨_, rfl, fun q hq => by rw [upd_ne (fun e => hq (by rw [e]; decide)), upd_ne (fun e => hq (by rw [e]; decide))], by rw [upd_ne (by decide), upd_at]; rfl, upd_at⟩
  have badR : ∀ (i' : Nat → Int32), (∀ q, q ∉ scI → i' q = i q) → i' 75 = nI 9 → i' 76 = nI k → ∀ r' : Rd, BAD i0 a0 b0 B0 (rdBad 9 k r') i' a b := fun i' q1 q2 q3 r' => BAD_of hF hB q1 (fun _ _ => rfl) (fun _ _ => rfl) q2 q3 (by show 1 ≤ 9 ∧ 9 ≤ 11; decide)
  rcases Classical.em (t = []) with c1 | c1
  · obtain ⟨i', q1, q2, q3, q4⟩ := bad1
    have : t.length = 0 := by rw [c1]; rfl
    rw [ieq_p (by omega), q1, om_s, if_pos (Or.inl c1)]
    exact ⟨⟨i', a, b, B, rfl, Or.inl ⟨by show ¬ 9 = 0; decide, badR i' q2 q3 q4 _⟩⟩, rfl⟩
  have ht0 : 0 < t.length := List.length_pos_iff.mpr c1
  rw [ieq_n (by omega), ck_n (by omega), cl_n (by omega), hI1, show (5 : Int32) = nI 5 from rfl]
  rcases Classical.em (ins.length = 5) with c2 | c2
  · obtain ⟨i', q1, q2, q3, q4⟩ := bad1
    rw [ieq_p c2, q1, om_s, if_pos (Or.inr (Or.inl (by omega)))]
    exact ⟨⟨i', a, b, B, rfl, Or.inl ⟨by show ¬ 9 = 0; decide, badR i' q2 q3 q4 _⟩⟩, rfl⟩
  rw [ieq_n (by omega)]
  unfold m_Model_input_b30 m_Model_input_b61
  have hW : B.1 < 120000 := by omega
  have eR : wrA (updA a 1 (a 1)) B.1 (p + 1) t.length = wrA a B.1 (p + 1) t.length := by rw [upd_self1]
  obtain ⟨g1, g2, g3⟩ := rC1_word (a := a) (b := b) (B := B) (p := p + 1) (l := t) (Lt := B.2.1) (r := a 1) ⟨hW, hB.2.1, hB.2.2.1, hB.2.2.2⟩ ⟨Nat.le_refl _, hB.2.1⟩ (fun _ _ => rfl) c1 (by omega) (fun x hx => w6 x (by rw [el]; exact List.mem_cons_of_mem _ hx)) (by omega) (fun x hx => by
    have := w10 (x + 1) (by omega)
    rw [show p + 1 + x = p + (x + 1) by omega, this]
    simp only [el, List.getElem_cons_succ]) hCO.2.1
  have hsfw := SF_word (i := i) (i' := upd i 19 (nI (B.1 + 1))) g1 (fun q hq => upd_ne (fun e => hq (by rw [e]; decide)))
  rw [eR] at g1 g2 g3 hsfw
  rw [if_pos rfl, ck_n (by omega), ck_n (by omega), cl_n (by omega), w8, w7, show (1 : Int32) = nI 1 from rfl, nI_add, sub_n (by omega), show l.length - 1 = t.length by omega, r_newWord hCO.1.1 hW, om_s]
  obtain ⟨aW, eaW⟩ : ∃ aW, aW = wrA a B.1 (p + 1) t.length := ⟨_, rfl⟩
  rw [← eaW] at g1 g2 g3 hsfw ⊢
  obtain ⟨bW, ebW⟩ : ∃ bW, bW = svl b 9 B.1 3 := ⟨_, rfl⟩
  rw [← ebW] at g1 g3 hsfw ⊢
  have hrw : ∀ q, q ≠ 1 ∧ q ≠ 3 ∧ q ≠ 4 ∧ q ≠ 7 → aW q = a q := fun q hq => by rw [eaW, ← eR]; exact wrA_row hq
  have hb80 : bW 80 = b 80 := by rw [ebW]; exact svl_row (by decide)
  have hB' : B.1 + 1 ≤ 120000 ∧ B.2.1 ≤ 300000 ∧ B.2.2.1 ≤ 90000 ∧ B.2.2.2 ≤ 90000 := ⟨by omega, hB.2.1, hB.2.2.1, hB.2.2.2⟩
  have hI' : INS aW (B.1 + 1, B.2.1, B.2.2.1, B.2.2.2) D.length ins := INS_up hI g1 (by rw [hrw 88 (by decide)]) (fun q _ => by rw [hrw 89 (by decide)])
  have h19 : ∀ q, q ≠ 19 → upd i 19 (nI (B.1 + 1)) q = i q := fun q hq => upd_ne hq
  have e66 := i66 (n := n) (tok := tok) (x := D.length) (v := B.1) (l := t) (ins := ins) (i := upd i 19 (nI (B.1 + 1))) (j := j) (b := bW) (by omega) (by omega) hI' g2 ins.length 0 n (by omega) (by omega) (fun p hp => by rw [List.take_zero] at hp; cases hp)
  have e66 : m_Model_input_b66 n n (upd i 19 (nI (B.1 + 1))) j aW bW (nI tok) (nI D.length) 0 (nI B.1) 0 = _ := e66
  rw [e66]
  unfold m_Model_input_b107
  rcases Classical.em (t ∈ ins) with c3 | c3
  · rw [decide_eq_true c3, if_neg (by decide), ck_n (by omega), cl_n (by omega), hrw 77 (by decide), h77, r_fail ((h19 75 (by decide)).trans hCO.2.2.1), om_s, om_s, if_pos (Or.inr (Or.inr c3))]
    refine ⟨⟨_, _, _, B, rfl, Or.inl ⟨by show ¬ 9 = 0; decide, BAD_of (SF_trans hF hsfw) hB' (fun q hq => by rw [upd_ne (fun e => hq (by rw [e]; decide)), upd_ne (fun e => hq (by rw [e]; decide))]) (fun _ _ => rfl) (fun _ _ => rfl) (by rw [upd_ne (by decide), upd_at]; rfl) upd_at (by show 1 ≤ 9 ∧ 9 ≤ 11; decide)⟩⟩, rfl⟩
  have e88 : aW 88 D.length = nI ins.length := hI'.1
  rw [decide_eq_false c3, if_pos (by rfl), ck_n (by omega), cl_n (by omega), e88, show (5 : Int32) * nI D.length = nI (5 * D.length) from pk_mul 5 D.length, nI_add, ck_n (by omega), cl_n (by omega), ob1_s, ck_n (by omega), ck_n (by omega), ob1_s, om_s, if_neg (fun q => q.elim c1 (fun q => q.elim (fun q => by omega) c3)), sv_row (show 88 ≠ 89 by decide), e88, show nI ins.length + (1 : Int32) = nI (ins.length + 1) from nI_add _ 1]
  obtain ⟨a3, ea3⟩ : ∃ a3, a3 = sv (sv aW 89 (5 * D.length + ins.length) (nI B.1)) 88 D.length (nI (ins.length + 1)) := ⟨_, rfl⟩
  rw [← ea3]
  have hr3 : ∀ q, q ≠ 88 → q ≠ 89 → a3 q = aW q := fun q q1 q2 => by rw [ea3, sv_row q1, sv_row q2]
  have hco1 : CO (upd i 19 (nI (B.1 + 1))) aW bW (B.1 + 1, B.2.1, B.2.2.1, B.2.2.2) T mt vl (tok + 1) := by
    obtain ⟨k1, k2, k3, k4, k5, k6⟩ := hCO
    exact ⟨⟨upd_at, (h19 18 (by decide)).trans k1.2.1, (h19 21 (by decide)).trans k1.2.2.1, (h19 20 (by decide)).trans k1.2.2.2.1, hB'⟩, g3, (h19 75 (by decide)).trans k3, (h19 81 (by decide)).trans k4, k5, fun x hx => ⟨TOK_up (k6 x hx).1 g1 (by rw [hrw 79 (by decide)]) (by rw [hb80]), (k6 x hx).2⟩⟩
  obtain ⟨o1, o2, o3⟩ := CO_rows (b := bW) (i' := upd i 19 (nI (B.1 + 1))) (a' := a3) hco1 (fun _ _ _ _ => rfl) (fun q hq => hr3 q (by omega) (by omega))
  have hu3 := rUp_trans g1 o3
  have r87 : a3 87 = a 87 := (hr3 87 (by decide) (by decide)).trans (hrw 87 (by decide))
  have r90 : a3 90 = a 90 := (hr3 90 (by decide) (by decide)).trans (hrw 90 (by decide))
  have r91 : a3 91 = a 91 := (hr3 91 (by decide) (by decide)).trans (hrw 91 (by decide))
  have r88 : ∀ x, x ≠ D.length → a3 88 x = a 88 x := fun x hx => by rw [ea3, sv_ne hx, sv_row (by decide), hrw 88 (by decide)]
  have r89 : ∀ x, x ≠ 5 * D.length + ins.length → a3 89 x = a 89 x := fun x hx => by rw [ea3, sv_row (by decide), sv_ne hx, hrw 89 (by decide)]
  refine ⟨⟨_, a3, bW, (B.1 + 1, B.2.1, B.2.2.1, B.2.2.2), rfl, Or.inr ⟨rfl, SF_trans (SF_trans hF hsfw) o2, ⟨by show B.1 + 1 ≤ B0.1 + 2 * (tok + 1); omega, hbd.2.1, hbd.2.2⟩, o1, R82_up S h82 (fun q _ => by rw [hr3 82 (by decide) (by decide), hrw 82 (by decide)]), ⟨(h19 84 (by decide)).trans d1, (h19 85 (by decide)).trans d2, (h19 86 (by decide)).trans d3⟩, by show 3 * D.length + min 2 2 ≤ tok + 1; omega, ⟨by show lo ≤ tok + 1; omega, by rw [SL_congr (a := a) _ (fun x _ => ⟨by rw [r90], by rw [r91]⟩)]; exact d5.2⟩, fun x hx => ?_, fun _ => ⟨⟨⟨y, by rw [r87]; exact y1, rW_up hu3 y2⟩, y3⟩, ?_⟩, fun e => absurd (show 2 = 3 from e) (by decide)⟩⟩, rfl⟩
  · have hx : x < D.length := hx
    exact DF1_up (d6 x hx) hu3 (Nat.le_refl _) ⟨by rw [r87], r88 x (by omega), by rw [r90], by rw [r91]⟩ (fun q hq => r89 _ (by omega)) (fun _ _ => ⟨rfl, rfl, rfl⟩)
  · show INS a3 _ D.length ((ins.map tW ++ [tW t]).map tLet)
    have eJ : (ins.map tW ++ [tW t]).map tLet = ins ++ [t] := by rw [List.map_append, em2, List.map_cons, List.map_nil, tLet_tW]
    rw [eJ]
    refine ⟨by rw [ea3, sv_at, List.length_append, List.length_singleton], by rw [List.length_append, List.length_singleton]; omega, fun q hq => ?_⟩
    rw [List.length_append, List.length_singleton] at hq
    rcases Nat.lt_or_ge q ins.length with c5 | c5
    · obtain ⟨z, z1, z2⟩ := hI.2.2 q c5
      rw [List.getElem_append_left c5]
      exact ⟨z, (r89 _ (by omega)).trans z1, rW_up hu3 z2⟩
    · have eq : q = ins.length := by omega
      subst eq
      rw [List.getElem_append_right (Nat.le_refl _)]
      refine ⟨B.1, by rw [ea3, sv_row (by decide), sv_at], ?_⟩
      simp only [Nat.sub_self, List.getElem_cons_zero]
      exact rW_up o3 g2
/-- a word of a body, or its end -/
theorem r_dwb {n : Nat} {k E st tok fr fp lo : Nat} {K : List (List Tr)} {D : List Proc} {cw : Nm} {ci : List Nm} {P : List Proc} {w : Nat} {l : List Nat} {i0 : Nat → Int32} {a0 : Nat → Nat → Int32} {b0 : Nat → Nat → Int64} {B0 : RB4} {i : Nat → Int32} {j : Nat → Int64} {a : Nat → Nat → Int32} {b : Nat → Nat → Int64} {B : RB4} {T : Nat → Tr} {mt : Nat → Nat} {vl : Nat → Bool} (hn : 1000 ≤ n) (h : SM true i0 a0 b0 B0 k E (st, K, tok, D, cw, ci, fr, 0, fp) i a b B T mt vl [] lo) (hw : rW a B w l) (hst : st = 2 ∨ st = 3) (h58 : st = 2 → aLex l ≠ 87) (hT : T tok = tW l ∧ vl tok = true ∧ mt tok = tok) (hk : KSx T mt vl (loC (st, K, tok, D, cw, ci, fr, 0, fp) lo) [] (aCI (st, K, tok, D, cw, ci, fr, 0, fp)).2.1 tok) (hsz : ∀ m, (aCI (st, K, tok, D, cw, ci, fr, 0, fp)).2.1 = [m] → tSz (tL m) ≤ 5000 ∧ tSl (tL m) ≤ 8000) : ∃ lo', DO (m_Model_definition_b52 n i j a b (nI tok) 1 (nI w)) j i0 a0 b0 B0 E (aPlain true P k (tW l) (st, K, tok + 1, D, cw, ci, fr, 0, fp)) T mt vl [] lo' ∧ ((aPlain true P k (tW l) (st, K, tok + 1, D, cw, ci, fr, 0, fp)).1 = 3 → KSx T mt vl lo' [] (aPlain true P k (tW l) (st, K, tok + 1, D, cw, ci, fr, 0, fp)).2.1 (tok + 1)) := by
  obtain ⟨⟨hF, hbd, hCO⟩, ⟨h82, hS⟩, h77, hD, _⟩ := h
  have hD := hD rfl
  dsimp only at hbd hCO h77 hD
  have hB := hCO.1.2.2.2.2
  have htok : tok < 600 := by have := hCO.2.2.2.2.1; omega
  obtain ⟨w1, w2, w3, w4, w5, w6, w7, p, w8, w9, w10⟩ := id hw
  have e52 : m_Model_definition_b52 n i j a b (nI tok) 1 (nI w) = m_Model_definition_b321 n i j a b (nI tok) 1 (nI w) := by
    unfold m_Model_definition_b52
    rw [hD.1.1]
    rcases hst with e | e
    · have h59 := h58 e
      subst e
      obtain ⟨c, t, el⟩ : ∃ c t, l = c :: t := by
        cases l with
        | nil => exact absurd rfl w4
        | cons c t => exact ⟨c, t, rfl⟩
      have hlen : l.length = t.length + 1 := by rw [el]; rfl
      have hc : c ≠ 58 := fun e => h59 (by rw [el]; exact (lex87 c t).mpr e)
      have hl0 : a 1 p = nI c := by
        have := w10 0 (by omega)
        rw [Nat.add_zero] at this
        rw [this]
        simp only [el, List.getElem_cons_zero]
      have hc2 := w6 c (by rw [el]; exact List.mem_cons_self)
      rw [if_neg (by decide), if_neg (by decide), if_pos (by decide), if_neg (by decide), ck_n (by omega), cl_n (by omega), w8, ck_n (by omega), cl_n (by omega), hl0, show (58 : Int32) = nI 58 from rfl, ieq_n (by omega)]
    · subst e; rw [if_neg (by decide), if_neg (by decide), if_neg (by decide)]
  obtain ⟨i', a', f1, f2, f3, f4⟩ := r_b321 (n := n) (j := j) (b := b) (v3 := 1) (v4 := nI w) hB hD (by omega) hst
  obtain ⟨g1, g2, g3⟩ := CO_rows (b := b) (i' := i') (a' := a') hCO (fun q w1 _ _ => f2 q w1) (fun q hq => f3 q (by omega))
  have hw' := rW_up g3 hw
  have eL : loC (st, K, tok, D, cw, ci, fr, 0, fp) lo = if st = 2 then tok else lo := rfl
  rw [← eL] at f4
  have eA : aCI (st, K, tok + 1, D, cw, ci, fr, 0, fp) = (3, (aCI (st, K, tok, D, cw, ci, fr, 0, fp)).2.1, tok + 1, D, cw, rdI (st, K, tok, D, cw, ci, fr, 0, fp), fr, 0, fp) := by
    unfold aCI rdI
    dsimp only
    rcases hst with e | e
    · subst e; rfl
    · subst e; rfl
  unfold aPlain
  rw [eA]
  dsimp only
  rw [if_neg (show ¬ st = 0 by omega), if_neg (show ¬ st = 1 by omega), if_neg (fun q : st = 2 ∧ aMean (tW l) = 87 => h58 q.1 ((aMean_tW l w4).symm.trans q.2)), aMean_tW l w4, e52, f1]
  obtain ⟨m, em, hm⟩ := hk
  rw [em]
  unfold m_Model_definition_b344
  rw [if_neg (by decide), r_isText (by omega) hw' tx10, ob0_s]
  obtain ⟨⟨d1, d2, d3⟩, d4, d5, d6, d7, d8⟩ := f4
  have hmle := SEG_le _ _ _ hm
  rcases Classical.em (l = [101, 110, 100]) with c | c
  · rw [decide_eq_true c, if_neg (by decide), if_pos ⟨rfl, rfl, (lex85 l).mpr c⟩, d3, ck_n (by omega), ob1_s, cl_n (by omega), ob1_s, ob1_s, ob1_s, show nI D.length + (1 : Int32) = nI (D.length + 1) from nI_add _ 1]
    obtain ⟨o1, o2, o3⟩ := CO_rows (b := b) (i' := upd (upd i' 86 (nI (D.length + 1))) 84 0) (a' := sv a' 91 D.length (nI tok)) g1 (fun q q1 _ q3 => by rw [upd_ne q1, upd_ne q3]) (fun q hq => sv_row (by omega))
    obtain ⟨⟨⟨y, y1, y2⟩, y3⟩, hI⟩ := d7 (by decide)
    have rr : ∀ q, q ≠ 91 → sv a' 91 D.length (nI tok) q = a' q := fun q hq => sv_row hq
    refine ⟨tok, ⟨_, _, _, B, rfl, Or.inr ⟨rfl, SF_trans (SF_trans hF g2) o2, ⟨by show B.1 ≤ B0.1 + 2 * (tok + 1); omega, hbd.2.1, hbd.2.2⟩, o1, trivial, ?_⟩⟩, fun e => absurd (show (0 : Nat) = 3 from e) (by decide)⟩
    show DD _ _ B T mt vl tok (tok + 1) 0 fr (D ++ [(cw, rdI (st, K, tok, D, cw, ci, fr, 0, fp), tL m)]) cw _
    refine ⟨⟨upd_at, by rw [upd_ne (by decide), upd_ne (by decide)]; exact d2, by rw [upd_ne (by decide), upd_at, List.length_append, List.length_singleton]⟩, by rw [List.length_append, List.length_singleton]; omega, ⟨by omega, by
      rw [List.length_append, List.length_singleton, SL, SL_congr (a := a') _ (fun x hx => ⟨by rw [rr 90 (by decide)], sv_ne (by omega)⟩), sv_at, rr 90 (by decide), d8 rfl, cl_n (by omega), cl_n (by omega)]
      omega⟩, fun x hx => ?_, fun e => absurd (show 2 ≤ 0 from e) (by decide), fun e => absurd (show 0 = 3 from e) (by decide)⟩
    rw [List.length_append, List.length_singleton] at hx
    rcases Nat.lt_or_ge x D.length with c5 | c5
    · rw [List.getElem_append_left c5]
      exact DF1_up (d6 x c5) o3 d5.1 ⟨by rw [rr 87 (by decide)], by rw [rr 88 (by decide)], by rw [rr 90 (by decide)], sv_ne (by omega)⟩ (fun q _ => by rw [rr 89 (by decide)]) (fun _ _ => ⟨rfl, rfl, rfl⟩)
    · have eq : x = D.length := by omega
      subst eq
      rw [List.getElem_append_right (Nat.le_refl _)]
      simp only [Nat.sub_self, List.getElem_cons_zero]
      exact ⟨⟨⟨y, by rw [rr 87 (by decide)]; exact y1, rW_up o3 y2⟩, y3⟩, INS_up hI o3 (by rw [rr 88 (by decide)]) (fun q _ => by rw [rr 89 (by decide)]), _, tok, m, by rw [rr 90 (by decide)]; exact d8 rfl, sv_at, rfl, hm, Nat.le_refl _, hsz m em⟩
  · rw [decide_eq_false c, if_pos (show b1 false = (0 : Int32) from rfl), if_neg (fun q => c ((lex85 l).mp q.2.2))]
    refine ⟨loC (st, K, tok, D, cw, ci, fr, 0, fp) lo, ⟨_, _, _, B, rfl, Or.inr ⟨rfl, SF_trans hF g2, ⟨by show B.1 ≤ B0.1 + 2 * (tok + 1); omega, hbd.2.1, hbd.2.2⟩, g1, trivial, ⟨d1, d2, d3⟩, by show 3 * D.length + min 3 2 ≤ tok + 1; omega, ⟨by show loC _ lo ≤ tok + 1; omega, d5.2⟩, d6, d7, d8⟩⟩, fun _ => ?_⟩
    have q := KSx_add (S := []) (K := [m]) (lo := loC (st, K, tok, D, cw, ci, fr, 0, fp) lo) (e := tok) ⟨m, rfl, hm⟩ (Or.inl ⟨hT.2.1, hT.2.2⟩)
    rw [hT.1, hT.2.2] at q
    exact q

