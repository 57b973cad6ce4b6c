/-! what can be a name, in the reference -/
def sgl : List Nat := [40, 41, 42, 43, 45, 47, 60, 61, 62]
set_option maxRecDepth 100000 in
theorem r_single0 : ∀ c, c < 128 → m_Model_isSingle 0 (nI c) = some (b1 (decide (c ∈ sgl))) := by decide +kernel
theorem r_single {n c : Nat} (h : c < 128) : m_Model_isSingle n (nI c) = some (b1 (decide (c ∈ sgl))) := r_single0 c h
set_option maxRecDepth 100000 in
theorem w74 : aWords.drop 74 = [[40], [41], [61], [60], [62], [43], [45], [42], [47], [116, 111], [101, 110, 100]] := by decide +kernel
set_option maxRecDepth 100000 in
theorem pW_sub : ∀ w ∈ pW, w ∈ aWords := by decide +kernel
theorem lex0 {l : List Nat} : aLex l = 0 ↔ (l.head? ≠ some 34 ∧ l.head? ≠ some 58 ∧ l ∉ pW ∧ l ∉ aWords.drop 74) := by
  unfold aLex
  rcases Classical.em (l.head? = some 34) with c | c
  · rw [if_pos c]
    exact ⟨fun e => absurd e (by decide), fun e => absurd c e.1⟩
  · rw [if_neg c]
    rcases Classical.em (l.head? = some 58) with d | d
    · rw [if_pos d]
      exact ⟨fun e => absurd e (by decide), fun e => absurd d e.2.1⟩
    · rw [if_neg d, aIx_zero l aWords 1 (Nat.le_refl 1)]
      exact ⟨fun e => ⟨c, d, fun h => e (pW_sub l h), fun h => e (List.mem_of_mem_drop h)⟩, fun e h => (pW_more l h).elim e.2.2.1 e.2.2.2⟩
theorem tx9 : isTx 9 [116, 111] := ⟨by decide, by decide, by decide, by decide, by decide +kernel⟩
theorem tx10 : isTx 10 [101, 110, 100] := ⟨by decide, by decide, by decide, by decide, by decide +kernel⟩
theorem r_isName {n : Nat} {i : Nat → Int32} {j : Nat → Int64} {a : Nat → Nat → Int32} {b : Nat → Nat → Int64} {B : RB4} {x : Nat} {l : List Nat} (hn : 1000 ≤ n) (hw : rW a B x l) (h7 : rPm a x l) : ∃ a', m_Model_isName n i j a b (nI x) = some (i, j, a', b, b1 (decide (aLex l = 0))) ∧ (∀ q, q ≠ 7 → a' q = a q) ∧ (∀ y, y ≠ x → a' 7 y = a 7 y) ∧ rPm a' x l := by
  obtain ⟨h1, h2, h3, h4, h5, h6, e7, p, h8, h9, h10⟩ := id hw
  have hpos : 0 < l.length := List.length_pos_iff.mpr h4
  have hc0 := h6 _ (List.getElem_mem hpos)
  have hhd : l.head? = some l[0] := by
    rw [List.head?_eq_getElem?, List.getElem?_eq_getElem hpos]
  have hl0 := h10 0 hpos
  rw [Nat.add_zero] at hl0
  have no : ¬ aLex l = 0 → ∃ a', (some (i, j, a, b, (0 : Int32)) : Option ((Nat → Int32) × (Nat → Int64) × (Nat → Nat → Int32) × (Nat → Nat → Int64) × Int32)) = some (i, j, a', b, b1 (decide (aLex l = 0))) ∧ (∀ q, q ≠ 7 → a' q = a q) ∧ (∀ y, y ≠ x → a' 7 y = a 7 y) ∧ rPm a' x l := fun h =>
    ⟨a, by rw [decide_eq_false h]; rfl, fun _ _ => rfl, fun _ _ => rfl, h7⟩
  have go : (l.length = 1 → l[0] ∉ sgl) → ∃ a', m_Model_isName_b33 n i j a b (nI x) (nI l[0]) = some (i, j, a', b, b1 (decide (aLex l = 0))) ∧ (∀ q, q ≠ 7 → a' q = a q) ∧ (∀ y, y ≠ x → a' 7 y = a 7 y) ∧ rPm a' x l := by
    intro hs
    unfold m_Model_isName_b33 m_Model_isName_b34
    rw [if_pos rfl, show (34 : Int32) = nI 34 from rfl, show (58 : Int32) = nI 58 from rfl]
    rcases Classical.em (l[0] = 34) with c | c
    · rw [ieq_p c]
      exact no (fun e => (lex0.mp e).1 (by rw [hhd, c]))
    · rw [ieq_n ⟨c, by omega, by omega⟩]
      rcases Classical.em (l[0] = 58) with d | d
      · rw [ieq_p d]
        exact no (fun e => (lex0.mp e).2.1 (by rw [hhd, d]))
      · rw [ieq_n ⟨d, by omega, by omega⟩, r_isText (by omega) hw tx9, ob0_s]
        rcases Classical.em (l = [116, 111]) with f | f
        · rw [decide_eq_true f, b1_t, if_neg (show ¬ nI 1 = (0 : Int32) by decide)]
          exact no (fun e => (lex0.mp e).2.2.2 (by rw [f, w74]; decide))
        · rw [decide_eq_false f, b1_f, if_pos (show nI 0 = (0 : Int32) from rfl), r_isText (by omega) hw tx10, ob0_s]
          rcases Classical.em (l = [101, 110, 100]) with g | g
          · rw [decide_eq_true g, b1_t, if_neg (show ¬ nI 1 = (0 : Int32) by decide)]
            exact no (fun e => (lex0.mp e).2.2.2 (by rw [g, w74]; decide))
          · obtain ⟨a', z1, z2, z3, z4⟩ := r_primitive (n := n) (i := i) (j := j) (b := b) hn hw h7
            refine ⟨a', ?_, z2, z3, z4⟩
            rw [decide_eq_false g, b1_f, if_pos (show nI 0 = (0 : Int32) from rfl), z1, om_s]
            rcases Classical.em (l ∈ pW) with k | k
            · have hk := (pW_code l k).2
              rw [if_pos k, if_neg (m1_ne (by omega)), decide_eq_false (fun e => (lex0.mp e).2.2.1 k)]
              rfl
            · have hd : l ∉ aWords.drop 74 := by
                rw [w74]
                intro hm
                simp only [List.mem_cons, List.not_mem_nil, or_false] at hm
                have key : ∀ c, c ∈ sgl → l = [c] → False := fun c hc e => by
                  subst e
                  exact hs rfl hc
                rcases hm with e | e | e | e | e | e | e | e | e | e | e
                · exact key _ (by decide) e
                · exact key _ (by decide) e
                · exact key _ (by decide) e
                · exact key _ (by decide) e
                · exact key _ (by decide) e
                · exact key _ (by decide) e
                · exact key _ (by decide) e
                · exact key _ (by decide) e
                · exact key _ (by decide) e
                · exact f e
                · exact g e
              rw [if_neg k, if_pos rfl, decide_eq_true (lex0.mpr ⟨by rw [hhd]; exact fun e => c (Option.some.inj e), by rw [hhd]; exact fun e => d (Option.some.inj e), k, hd⟩)]
              rfl
  unfold m_Model_isName
  rw [ck_n (by omega), cl_n (by omega), h8, ck_n (by omega), cl_n (by omega), hl0, ob1_s, ck_n (by omega), e7, show (1 : Int32) = nI 1 from rfl]
  rcases Classical.em (l.length = 1) with c | c
  · rw [ieq_p c, r_single (by omega), ob0_s]
    rcases Classical.em (l[0] ∈ sgl) with d | d
    · rw [decide_eq_true d, b1_t, if_neg (show ¬ nI 1 = (0 : Int32) by decide)]
      unfold m_Model_isName_b34
      rw [if_neg (show ¬ nI 1 = (0 : Int32) by decide)]
      refine no (fun e => (lex0.mp e).2.2.2 ?_)
      have el : l = [l[0]] := by
        obtain ⟨y, hy⟩ := List.length_eq_one_iff.mp c
        subst hy
        rfl
      rw [el, w74]
      revert d
      generalize l[0] = y
      intro d
      simp only [sgl, List.mem_cons, List.not_mem_nil, or_false] at d
      rcases d with rfl | rfl | rfl | rfl | rfl | rfl | rfl | rfl | rfl <;> decide
    · rw [decide_eq_false d, b1_f, if_pos (show nI 0 = (0 : Int32) from rfl)]
      exact go (fun _ => d)
  · rw [ieq_n ⟨c, by omega, by omega⟩]
    exact go (fun e => absurd e c)

