/-! names get values in the reference -/
def rFail (i : Nat → Int32) (e : Nat) : Nat → Int32 := upd (upd i 102 2) 126 (nI e)
theorem r_fails {n : Nat} {i : Nat → Int32} {j : Nat → Int64} {a : Nat → Nat → Int32} {b : Nat → Nat → Int64} (e : Nat) : m_Model_fails n i j a b (nI e) = some (rFail i e, j, a, b, 3) := rfl
/-- what values hang on is as it was -/
def rSame (a a' : Nat → Nat → Int32) (b b' : Nat → Nat → Int64) : Prop := a' 1 = a 1 ∧ a' 3 = a 3 ∧ a' 4 = a 4 ∧ a' 12 = a 12 ∧ a' 13 = a 13 ∧ a' 14 = a 14 ∧ b' 10 = b 10
theorem rUp_same {a a' : Nat → Nat → Int32} {b b' : Nat → Nat → Int64} {B : RB4} (h : rSame a a' b b') (hB : B.1 ≤ 120000 ∧ B.2.1 ≤ 300000 ∧ B.2.2.1 ≤ 90000 ∧ B.2.2.2 ≤ 90000) : rUp a b B a' b' B := by
  obtain ⟨h1, h2, h3, h4, h5, h6, h7⟩ := h
  exact ⟨⟨Nat.le_refl _, hB.1, Nat.le_refl _, hB.2.1, Nat.le_refl _, hB.2.2.1, Nat.le_refl _, hB.2.2.2⟩, fun _ _ => ⟨by rw [h2], by rw [h3]⟩, fun _ _ => by rw [h1], fun _ _ => ⟨by rw [h4], by rw [h5], by rw [h6]⟩, fun _ _ => by rw [h7]⟩
theorem rV_no3 {a : Nat → Nat → Int32} {b : Nat → Nat → Int64} {B : RB4} {t : Tr} {v : Int64} (h : rV a b B t none v) : ¬ lg_cmp v 3 = 0 := by
  show ¬ lg_cmp v (Int64.ofInt 3) = 0
  rcases rV_cases h with ⟨k, rfl, h1, h2, rfl⟩ | ⟨l, w, rfl, rfl, h3⟩ | ⟨ms, l, p, rfl, rfl, h3, h4⟩
  · unfold vN
    rw [lg_eq (by omega) (by omega)]
    omega
  · unfold vW
    have := h3.1
    have := h3.2.1
    rw [lg_eq (by omega) (by omega)]
    omega
  · unfold vL
    have := h3.1
    have := h3.2.1
    rw [lg_eq (by omega) (by omega)]
    omega
theorem m1_ne {k : Nat} (h : k < 2147483648) : ¬ nI k = (-1 : Int32) := fun e => by
  have h1 : (nI k).toInt = k := by
    rw [nI_ofInt]
    exact i32_int (by omega) (by omega)
  rw [e] at h1
  have : (-1 : Int32).toInt = -1 := rfl
  omega
theorem r_valueOf {n : Nat} {i : Nat → Int32} {j : Nat → Int64} {a : Nat → Nat → Int32} {b : Nat → Nat → Int64} {B : RB4} {w : List Nat} {q : Nat} {F : List Fr} {Gl : List (Nm × Tr)} (hn : 1000 ≤ n) (hB : B.1 ≤ 120000 ∧ B.2.1 ≤ 300000 ∧ B.2.2.1 ≤ 90000 ∧ B.2.2.2 ≤ 90000) (hw : rT a q w) (h99 : i 99 = nI F.length) (hF : rFr a b B F) (hG : rGl i a b B Gl) (hl : F.length ≤ 150) :
    (∃ t v, aFind F Gl w = some t ∧ rV a b B t none v ∧ m_Model_valueOf n i j a b (nI q) (nI w.length) = some (i, j, a, b, v)) ∨ (aFind F Gl w = none ∧ m_Model_valueOf n i j a b (nI q) (nI w.length) = some (rFail i 2, j, a, b, 3)) := by
  have e3 : m_Model_valueOf_b44 n i j a b 3 = some (rFail i 2, j, a, b, 3) := by
    unfold m_Model_valueOf_b44
    rw [if_pos (by decide), show (2 : Int32) = nI 2 from rfl, r_fails, om_s]
  have ev : ∀ t v, rV a b B t none v → m_Model_valueOf_b44 n i j a b v = some (i, j, a, b, v) := fun t v h => by
    unfold m_Model_valueOf_b44
    rw [if_neg (rV_no3 h)]
  unfold m_Model_valueOf aFind
  rcases r_found (n := n) (j := j) hn hB hw h99 hF hG hl with ⟨s, o, y1, y2, y3, y4, y5⟩ | ⟨s, t0, y1, y2, y3, y4, y5, y6⟩ | ⟨y1, y2, y3⟩
  · rw [y4, ob0_s, if_neg (m1_ne (by omega)), show (10000 : Int32) = nI 10000 from rfl, ilt_p (by omega), ck_n (by omega), cl_n (by omega), y2]
    cases o with
    | none =>
      have y3 : b 115 s = 3 := y3
      rw [y3]
      exact Or.inr ⟨rfl, e3⟩
    | some t => exact Or.inl ⟨t, _, rfl, y3, ev t _ y3⟩
  · rw [y5, ob0_s, if_neg (m1_ne (by omega)), show (10000 : Int32) = nI 10000 from rfl, ilt_n (by omega), sub_n (by omega), show 10000 + s - 10000 = s by omega, ck_n (by omega), cl_n (by omega), y2]
    exact Or.inl ⟨t0, _, y3, y4, ev t0 _ y4⟩
  · rw [y3, ob0_s, if_pos rfl, y1]
    exact Or.inr ⟨y2, e3⟩
theorem r_make {n : Nat} {i : Nat → Int32} {j : Nat → Int64} {a : Nat → Nat → Int32} {b : Nat → Nat → Int64} {B : RB4} {w : List Nat} {x : Nat} {t : Tr} {v : Int64} {g : GS} {F : List Fr} (hn : 1000 ≤ n) (hB : B.1 ≤ 120000 ∧ B.2.1 ≤ 300000 ∧ B.2.2.1 ≤ 90000 ∧ B.2.2.2 ≤ 90000) (hw : rW a B x w) (hv : rV a b B t none v) (h99 : i 99 = nI F.length) (hF : rFr a b B F) (hG : rGl i a b B (gGlob g)) (hl : F.length ≤ 150) :
    (∃ e, aMake w t g F = .error e ∧ m_Model_make n i j a b (vW x) v = some (rFail i e, j, a, b, 3)) ∨
    (∃ g' F' i' a' b', aMake w t g F = .ok (g', F') ∧ m_Model_make n i j a b (vW x) v = some (i', j, a', b', 3) ∧ rFr a' b' B F' ∧ rGl i' a' b' B (gGlob g') ∧ (∀ q, q ≠ 36 → i' q = i q) ∧ (∀ q, q ≠ 34 → a' q = a q) ∧ (∀ q, q ≠ 35 → q ≠ 115 → b' q = b q)) := by
  obtain ⟨h1, h2, h3, h4, h5, h6, h7, p, h8, h9, h10⟩ := id hw
  have hT : rT a p w := ⟨by omega, by omega, h6, h10⟩
  have hsz : tSz t ≤ 5000 := by
    rcases rV_cases hv with ⟨k, rfl, _⟩ | ⟨l, w, rfl, _, h3⟩ | ⟨ms, l, p, rfl, _, h3, _⟩
    · show 1 ≤ 5000; decide
    · rw [tSz_tW]; have := h3.2.2.2.2.1; omega
    · exact h3.2.2.2.2.2.2.2.1
  unfold m_Model_make
  rw [r_whatW (by omega), ob0_s, ck_n (by omega), ck_n (by omega), cl_n (by omega), h7, h8]
  have big : ∀ (y : Int32) (k : Nat), 300 < tSz t → m_Model_make_b67 n i j a b v (nI x) y = some (rFail i 8, j, a, b, 3) := fun y k hb => by
    unfold m_Model_make_b67
    rw [r_sizeOf hv, ob0_s, show (300 : Int32) = nI 300 from rfl, ile_n (by omega), show (8 : Int32) = nI 8 from rfl, r_fails, om_s]
  rcases r_found (n := n) (j := j) hn hB hT h99 hF hG hl with ⟨s, o, y1, y2, y3, y4, y5⟩ | ⟨s, t0, y1, y2, y3, y4, y5, y6⟩ | ⟨y1, y2, y3⟩
  · refine Or.inr ⟨g, fSet F w t, i, a, svl b 115 s v, ?_, ?_, y5 t v hv, rGl_up (rUp_b (svl_10 (by decide)) hB) rfl (fun m _ => ⟨rfl, rfl⟩) hG, fun _ _ => rfl, fun _ _ => rfl, fun q h1 h2 => updB_ne h2⟩
    · unfold aMake
      rw [y2]
    · rw [y4, ob0_s, if_neg (m1_ne (by omega)), show (10000 : Int32) = nI 10000 from rfl, ile_n (by omega), ck_n (by omega), ob1_s, cl_n (by omega)]
  · have ea : aMake w t g F = if 300 < tSz t then .error 8 else .ok (gSetGlob g (gSet (gGlob g) w t), F) := by
      unfold aMake
      rw [y2, y3]
    rw [ea, y5, ob0_s, if_neg (m1_ne (by omega)), show (10000 : Int32) = nI 10000 from rfl, ile_p (by omega)]
    unfold m_Model_make_b52
    rw [if_neg (m1_ne (by omega))]
    rcases Nat.lt_or_ge 300 (tSz t) with c | c
    · refine Or.inl ⟨8, by rw [if_pos c], big _ 0 c⟩
    · refine Or.inr ⟨gSetGlob g (gSet (gGlob g) w t), F, i, a, svl b 35 s v, by rw [if_neg (by omega)], ?_, rFr_up (rUp_b (svl_10 (by decide)) hB) F (fun _ _ => rfl) (fun _ _ => ⟨rfl, rfl⟩) hF, y6 t v hv, fun _ _ => rfl, fun _ _ => rfl, fun q h1 h2 => updB_ne h1⟩
      unfold m_Model_make_b67
      rw [r_sizeOf hv, ob0_s, show (300 : Int32) = nI 300 from rfl, ile_p (by omega), if_neg (m1_ne (by omega))]
      unfold m_Model_make_b104
      rw [if_neg (m1_ne (by omega)), show (10000 : Int32) = nI 10000 from rfl, sub_n (by omega), show 10000 + s - 10000 = s by omega]
      unfold m_Model_make_b131
      rw [ck_n (by omega), ob1_s, cl_n (by omega)]
  · have hG1 := hG.1
    have hG2 := hG.2.1
    have ea : aMake w t g F = if 300 < tSz t then .error 8 else if 64 ≤ (gGlob g).length then .error 8 else .ok (gSetGlob g (gGlob g ++ [(w, t)]), F) := by
      unfold aMake
      rw [y1, y2]
    rw [ea, y3, ob0_s, if_pos rfl]
    unfold m_Model_make_b52
    rw [if_pos rfl, hG1, show (64 : Int32) = nI 64 from rfl]
    rcases Nat.lt_or_ge 63 (gGlob g).length with d | d
    · refine Or.inl ⟨8, ?_, ?_⟩
      · rw [if_pos (show 64 ≤ (gGlob g).length by omega)]
        exact ite_self _
      · rw [ieq_p (by omega), show (8 : Int32) = nI 8 from rfl, r_fails, om_s]
    · rw [ieq_n ⟨by omega, by omega, by omega⟩]
      rcases Nat.lt_or_ge 300 (tSz t) with c | c
      · refine Or.inl ⟨8, by rw [if_pos c], big _ 0 c⟩
      · have hs : rSame a (sv a 34 (gGlob g).length (nI x)) b (svl b 35 (gGlob g).length v) := ⟨rfl, rfl, rfl, rfl, rfl, rfl, svl_10 (by decide)⟩
        have hu := rUp_same hs hB
        refine Or.inr ⟨gSetGlob g (gGlob g ++ [(w, t)]), F, upd i 36 (nI ((gGlob g).length + 1)), sv a 34 (gGlob g).length (nI x), svl b 35 (gGlob g).length v, by rw [if_neg (by omega), if_neg (by omega)], ?_, rFr_up hu F (fun _ _ => rfl) (fun _ _ => ⟨rfl, rfl⟩) hF, ?_, fun q hq => upd_ne hq, fun q hq => updA_ne hq, fun q h1 h2 => updB_ne h1⟩
        · unfold m_Model_make_b67
          rw [r_sizeOf hv, ob0_s, show (300 : Int32) = nI 300 from rfl, ile_p (by omega), if_pos rfl]
          unfold m_Model_make_b104
          rw [if_pos rfl, hG1, ck_n (by omega), ob1_s, ob1_s, ob1_s, cl_n (by omega), show (1 : Int32) = nI 1 from rfl, nI_add]
          unfold m_Model_make_b131
          rw [ck_n (by omega), ob1_s, cl_n (by omega)]
        · show rGl _ _ _ B (gGlob g ++ [(w, t)])
          refine ⟨by rw [List.length_append, upd_at]; rfl, by rw [List.length_append]; show (gGlob g).length + 1 ≤ 64; omega, fun m hm => ?_⟩
          rw [List.length_append] at hm
          have hm : m < (gGlob g).length + 1 := hm
          rcases Nat.lt_or_ge m (gGlob g).length with c2 | c2
          · obtain ⟨⟨y, k1, k2⟩, k3⟩ := hG.2.2 m c2
            rw [List.getElem_append_left c2]
            refine ⟨⟨y, ?_, rW_up hu k2⟩, ?_⟩
            · show upd (a 34) _ _ m = _
              rw [upd_ne (by omega)]; exact k1
            · show rV _ _ _ _ none (vp_updL (b 35) _ _ m)
              rw [updL_ne (by omega)]
              exact (rV_up hu _).1 _ k3
          · have em : m = (gGlob g).length := by omega
            subst em
            rw [List.getElem_concat_length rfl]
            refine ⟨⟨x, ?_, rW_up hu hw⟩, ?_⟩
            · show upd (a 34) _ _ _ = _
              rw [upd_at]
            · show rV _ _ _ _ none (vp_updL (b 35) _ _ _)
              rw [updL_at]
              exact (rV_up hu _).1 _ hv

