/-! signs in the reference -/
theorem drop74 : aWords.drop 74 = [[40], [41], [61], [60], [62], [43], [45], [42], [47], [116, 111], [101, 110, 100]] := by decide
def sgL (s : Nat) : Nat := [61, 60, 62, 43, 45, 42, 47].getD s 0
theorem lexV : aLex [40] = 75 ∧ aLex [41] = 76 ∧ aLex [61] = 77 ∧ aLex [60] = 78 ∧ aLex [62] = 79 ∧ aLex [43] = 80 ∧ aLex [45] = 81 ∧ aLex [42] = 82 ∧ aLex [47] = 83 ∧ aLex [116, 111] = 84 ∧ aLex [101, 110, 100] = 85 := by decide
/-- what words mean -/
theorem lexC (l : List Nat) : l.head? = some 34 ∨ l.head? = some 58 ∨ (l ∈ pW ∧ l.head? ≠ some 34 ∧ l.head? ≠ some 58) ∨ l = [40] ∨ l = [41] ∨ (∃ s, s ≤ 6 ∧ l = [sgL s] ∧ aLex l = 77 + s) ∨ l = [116, 111] ∨ l = [101, 110, 100] ∨ aLex l = 0 := by
  rcases Classical.em (l.head? = some 34) with h1 | h1
  · exact Or.inl h1
  rcases Classical.em (l.head? = some 58) with h2 | h2
  · exact Or.inr (Or.inl h2)
  rcases Classical.em (l ∈ pW) with h3 | h3
  · exact Or.inr (Or.inr (Or.inl ⟨h3, h1, h2⟩))
  rcases Classical.em (l ∈ aWords.drop 74) with h4 | h4
  · rw [drop74] at h4
    simp only [List.mem_cons, List.not_mem_nil, or_false] at h4
    rcases h4 with h | h | h | h | h | h | h | h | h | h | h
    · exact Or.inr (Or.inr (Or.inr (Or.inl h)))
    · exact Or.inr (Or.inr (Or.inr (Or.inr (Or.inl h))))
    · exact Or.inr (Or.inr (Or.inr (Or.inr (Or.inr (Or.inl ⟨0, by decide, h, by rw [h]; decide⟩)))))
    · exact Or.inr (Or.inr (Or.inr (Or.inr (Or.inr (Or.inl ⟨1, by decide, h, by rw [h]; decide⟩)))))
    · exact Or.inr (Or.inr (Or.inr (Or.inr (Or.inr (Or.inl ⟨2, by decide, h, by rw [h]; decide⟩)))))
    · exact Or.inr (Or.inr (Or.inr (Or.inr (Or.inr (Or.inl ⟨3, by decide, h, by rw [h]; decide⟩)))))
    · exact Or.inr (Or.inr (Or.inr (Or.inr (Or.inr (Or.inl ⟨4, by decide, h, by rw [h]; decide⟩)))))
    · exact Or.inr (Or.inr (Or.inr (Or.inr (Or.inr (Or.inl ⟨5, by decide, h, by rw [h]; decide⟩)))))
    · exact Or.inr (Or.inr (Or.inr (Or.inr (Or.inr (Or.inl ⟨6, by decide, h, by rw [h]; decide⟩)))))
    · exact Or.inr (Or.inr (Or.inr (Or.inr (Or.inr (Or.inr (Or.inl h))))))
    · exact Or.inr (Or.inr (Or.inr (Or.inr (Or.inr (Or.inr (Or.inr (Or.inl h)))))))
  · exact Or.inr (Or.inr (Or.inr (Or.inr (Or.inr (Or.inr (Or.inr (Or.inr (lex0.mpr ⟨h1, h2, h3, h4⟩))))))))
theorem lex_34 {l : List Nat} (h : l.head? = some 34) : aLex l = 86 := by unfold aLex; rw [if_pos h]
theorem lex_58 {l : List Nat} (h : l.head? = some 58) : aLex l = 87 := by unfold aLex; rw [if_neg (by rw [h]; decide), if_pos h]
theorem lex_pW {l : List Nat} (h : l ∈ pW) : 1 ≤ aLex l ∧ aLex l ≤ 74 ∧ aLex l = pCode (aIx l pW 0) ∧ aIx l pW 0 < 74 := by
  obtain ⟨h1, h2⟩ := pW_code l h
  have : 1 ≤ pCode (aIx l pW 0) ∧ pCode (aIx l pW 0) ≤ 74 := by
    unfold pCode
    split
    · omega
    · split <;> omega
  rw [h1]
  exact ⟨this.1, this.2, rfl, h2⟩
theorem sg_cases {s : Nat} (h : s ≤ 6) : s = 0 ∨ s = 1 ∨ s = 2 ∨ s = 3 ∨ s = 4 ∨ s = 5 ∨ s = 6 := by omega
/-- a word is a sign, or its letter is none of the signs' -/
theorem sgn_word (l : List Nat) : (∃ s, s ≤ 6 ∧ l = [sgL s] ∧ aLex l = 77 + s) ∨ (¬ (77 ≤ aLex l ∧ aLex l ≤ 83) ∧ ∀ c, l = [c] → ∀ s, s ≤ 6 → c ≠ sgL s) := by
  have no : ∀ s, s ≤ 6 → aLex [sgL s] = 77 + s := fun s hs => by
    rcases sg_cases hs with h | h | h | h | h | h | h <;> rw [h] <;> decide
  rcases Classical.em (77 ≤ aLex l ∧ aLex l ≤ 83) with c | c
  · left
    rcases lexC l with h | h | ⟨h, _⟩ | h | h | h | h | h | h
    · rw [lex_34 h] at c; omega
    · rw [lex_58 h] at c; omega
    · have := lex_pW h; omega
    · rw [h, lexV.1] at c; omega
    · rw [h, lexV.2.1] at c; omega
    · exact h
    · rw [h, lexV.2.2.2.2.2.2.2.2.2.1] at c; omega
    · rw [h, lexV.2.2.2.2.2.2.2.2.2.2] at c; omega
    · omega
  · right
    refine ⟨c, fun ch e s hs hc => ?_⟩
    rw [e, hc, no s hs] at c
    omega
/-- how strong the sign ahead is, if it is stronger than s -/
def sgK (l : Lv) (s : Nat) : Nat := match aSign l with
  | none => 0
  | some g => if s < aStrength g then aStrength g else 0
theorem aStr_le {g : Nat} (h : g ≤ 6) : 1 ≤ aStrength g ∧ aStrength g ≤ 3 := by
  rcases sg_cases h with h | h | h | h | h | h | h <;> rw [h] <;> decide
theorem r_signAhead {n : Nat} {i : Nat → Int32} {j : Nat → Int64} {a : Nat → Nat → Int32} {b : Nat → Nat → Int64} {B : RB4} {l : Lv} {s : Nat} (hs : s ≤ 10) (hlo : lOk l) (htp : rTop i a b B l) : m_Model_signAhead n i j a b (nI s) = some (nI (sgK l s)) := by
  obtain ⟨x, ⟨x1, x2⟩, x3, x4⟩ := htp
  obtain ⟨y1, y2, y3, p, y4, y5, y6⟩ := rListAt x3 hlo.2.1 x2
  have b138 : ∀ k : Nat, k ≤ 10 → m_Model_signAhead_b138 n i j a b (nI s) (nI k) = some (nI (if s < k then k else 0)) := fun k hk => by
    unfold m_Model_signAhead_b138
    rcases Nat.lt_or_ge s k with c | c
    · rw [ile_n (by omega), if_pos c]
    · rw [ile_p (by omega), if_neg (by omega)]; rfl
  unfold m_Model_signAhead
  rw [x1, x4, ck_n (by omega), cl_n (by omega), y2]
  rcases Nat.lt_or_ge (lNx l) (tMem (lLst l)).length with c | c
  · have eg : (tMem (lLst l))[lNx l]? = some ((tMem (lLst l))[lNx l]'c) := List.getElem?_eq_getElem c
    have hm := y6 (lNx l) c
    obtain ⟨_, k2, _⟩ := r_kinds n hm
    rw [ilt_p (by omega), ck_n (by omega), y4, nI_add, ck_n (by omega), cl_n (by omega), ob1_s, k2, ob0_s]
    generalize (tMem (lLst l))[lNx l]'c = mm at eg hm k2
    have as : aSign l = if isW mm ∧ 77 ≤ aLex (tLet mm) ∧ aLex (tLet mm) ≤ 83 then some (aLex (tLet mm) - 77) else none := by
      unfold aSign
      rw [eg]
    cases hW : isW mm with
    | false =>
      rw [hW, if_neg (fun h => by cases h.1)] at as
      rw [b1_f, if_pos (show nI 0 = (0 : Int32) from rfl)]
      unfold sgK
      rw [as]
      rfl
    | true =>
      obtain ⟨w, ew, hw⟩ := r_isW_eq hm hW
      obtain ⟨g1, g2, g3, g4, g5, g6, g7, q, g8, g9, g10⟩ := id hw
      rw [b1_t, if_neg (show ¬ nI 1 = (0 : Int32) by decide), ew, r_whatW (by omega), ob0_s, ck_n (by omega), cl_n (by omega), g7]
      rcases sgn_word (tLet mm) with ⟨sg, hsg, e1, e2⟩ | ⟨e1, e2⟩
      · rw [hW, if_pos ⟨rfl, by omega, by omega⟩, e2, Nat.add_sub_cancel_left] at as
        have h1l : (tLet mm).length = 1 := by rw [e1]; rfl
        have hl1 : a 1 q = nI (sgL sg) := by
          have := g10 0 (by rw [e1]; exact Nat.zero_lt_one)
          simp only [e1] at this
          exact this
        rw [e1, show ([sgL sg] : List Nat).length = 1 from rfl, if_pos (show nI 1 = (1 : Int32) from rfl), ob0_s, ck_n (by omega), cl_n (by omega), g8, ck_n (by omega), cl_n (by omega), ob1_s, hl1]
        unfold sgK m_Model_signAhead_b97 m_Model_signAhead_b115 m_Model_signAhead_b133
        rw [as]
        rcases sg_cases hsg with rfl | rfl | rfl | rfl | rfl | rfl | rfl
        · rw [if_pos (by decide)]
          exact b138 1 (by decide)
        · rw [if_neg (by decide), if_pos (by decide)]
          exact b138 1 (by decide)
        · rw [if_neg (by decide), if_neg (by decide), if_pos (by decide)]
          exact b138 1 (by decide)
        · rw [if_neg (by decide), if_neg (by decide), if_neg (by decide), if_pos (by decide)]
          exact b138 2 (by decide)
        · rw [if_neg (by decide), if_neg (by decide), if_neg (by decide), if_neg (by decide), if_pos (by decide)]
          exact b138 2 (by decide)
        · rw [if_neg (by decide), if_neg (by decide), if_neg (by decide), if_neg (by decide), if_neg (by decide), if_pos (by decide)]
          exact b138 3 (by decide)
        · rw [if_neg (by decide), if_neg (by decide), if_neg (by decide), if_neg (by decide), if_neg (by decide), if_neg (by decide), if_pos (by decide)]
          exact b138 3 (by decide)
      · rw [hW, if_neg (fun h => e1 h.2)] at as
        unfold sgK
        rw [as]
        rcases Classical.em ((tLet mm).length = 1) with d | d
        · obtain ⟨c0, ec0⟩ := List.length_eq_one_iff.mp d
          have hl1 : a 1 q = nI c0 := by
            have := g10 0 (by rw [ec0]; exact Nat.zero_lt_one)
            simp only [ec0] at this
            exact this
          have hc0 : c0 ≤ 126 := (g6 c0 (by rw [ec0]; exact List.mem_singleton.mpr rfl)).2
          have ne : ∀ s, s ≤ 6 → ∀ z : Nat, z = sgL s → ¬ nI c0 = nI z := fun s hs z ez h => by
            have hz : z ≤ 126 := by rw [ez]; rcases sg_cases hs with h | h | h | h | h | h | h <;> rw [h] <;> decide
            exact e2 c0 ec0 s hs ((nI_letter hc0 hz h).trans ez)
          rw [d, if_pos (show nI 1 = (1 : Int32) from rfl), ob0_s, ck_n (by omega), cl_n (by omega), g8, ck_n (by omega), cl_n (by omega), ob1_s, hl1, if_neg (show ¬ nI c0 = (61 : Int32) from ne 0 (by decide) 61 rfl), if_neg (show ¬ nI c0 = (60 : Int32) from ne 1 (by decide) 60 rfl), if_neg (show ¬ nI c0 = (62 : Int32) from ne 2 (by decide) 62 rfl), if_neg (show ¬ nI c0 = (43 : Int32) from ne 3 (by decide) 43 rfl), if_neg (show ¬ nI c0 = (45 : Int32) from ne 4 (by decide) 45 rfl), if_neg (show ¬ nI c0 = (42 : Int32) from ne 5 (by decide) 42 rfl), if_neg (show ¬ nI c0 = (47 : Int32) from ne 6 (by decide) 47 rfl)]
          exact b138 0 (by decide)
        · rw [if_neg (show ¬ nI (tLet mm).length = (1 : Int32) from fun h => d ((nI_eq (by omega) (by omega)).mp (show nI (tLet mm).length = nI 1 from h)))]
          rfl
  · have eg : (tMem (lLst l))[lNx l]? = none := List.getElem?_eq_none c
    have as : aSign l = none := by unfold aSign; rw [eg]
    have := hlo.2.2.1
    rw [ilt_n (by omega)]
    unfold sgK
    rw [as]
    rfl
theorem sgW_code {g : Nat} (h : g ≤ 6) : aSignWord g = pCode ([31, 25, 26, 19, 20, 21, 22].getD g 0) := by
  rcases sg_cases h with h | h | h | h | h | h | h <;> rw [h] <;> decide
/-- a sign is applied -/
theorem VR_sign {n : Nat} {i : Nat → Int32} {j : Nat → Int64} {a : Nat → Nat → Int32} {b : Nat → Nat → Int64} {B : RB4} {bd : Nat} {G : GS} {N : LN} {F : List Fr} {L : List Lv} {g : Nat} {t u : Tr} {x y : Int64} (hn : 100000 ≤ n) (hg : g ≤ 6) (h : rWo i j a b B bd G N F) (ht : rV a b B t none x) (hu : rV a b B u none y) : ∃ r, aDo (aSignWord g) [t, u] G N F L = eC r G N F L ∧ VR i j a b B bd G N F r (m_Model_binary n i j a b (nI (sgL g)) x y) ∧ ∀ G' N' F' v, r = .ok (G', N', F', v) → N' = N := by
  rcases Classical.em (g = 0) with c | c
  · subst c
    refine ⟨.ok (G, N, F, some (aTruth (dec (t = u)))), rfl, ?_, fun G' N' F' v e => by cases e; rfl⟩
    unfold m_Model_binary
    rw [if_pos (show nI (sgL 0) = (61 : Int32) from rfl)]
    exact VR_equal (by omega) h ht hu
  · obtain ⟨k1, _, _⟩ := r_kinds n ht
    obtain ⟨k2, _, _⟩ := r_kinds n hu
    have h61 : ¬ nI (sgL g) = (61 : Int32) := by
      rcases sg_cases hg with h | h | h | h | h | h | h
      · exact absurd h c
      all_goals (rw [h]; decide)
    have hk : aKind (aSignWord g) = [110, 110] := by
      rcases sg_cases hg with h | h | h | h | h | h | h
      · exact absurd h c
      all_goals (rw [h]; decide)
    have hcode : 20 ≤ aSignWord g ∧ aSignWord g ≤ 27 := by
      rcases sg_cases hg with h | h | h | h | h | h | h
      · exact absurd h c
      all_goals (rw [h]; decide)
    have af : aFits (aKind (aSignWord g)) [t, u] = (isN t && (isN u && true)) := by rw [hk]; rfl
    unfold m_Model_binary
    rw [if_neg h61, k1, ob0_s]
    cases h1 : isN t with
    | false =>
      rw [h1] at af
      refine ⟨.error 3, by unfold aDo; dsimp only; rw [if_pos (by rw [af]; rfl)]; rfl, ?_, fun G' N' F' v e => by cases e⟩
      rw [b1_f, if_pos (show nI 0 = (0 : Int32) from rfl)]
      exact VR_fail h rfl
    | true =>
      rw [b1_t, if_neg (show ¬ nI 1 = (0 : Int32) by decide), k2, ob0_s]
      cases h2 : isN u with
      | false =>
        rw [h1, h2] at af
        refine ⟨.error 3, by unfold aDo; dsimp only; rw [if_pos (by rw [af]; rfl)]; rfl, ?_, fun G' N' F' v e => by cases e⟩
        rw [b1_f, if_pos (show nI 0 = (0 : Int32) from rfl)]
        exact VR_fail h rfl
      | true =>
        rw [h1, h2] at af
        obtain ⟨n1, n2, n3⟩ := numAt (n := n) ht h1
        obtain ⟨m1, m2, m3⟩ := numAt (n := n) hu h2
        rw [b1_t, if_neg (show ¬ nI 1 = (0 : Int32) by decide)]
        refine ⟨rTG N F (aNumber (aSignWord g) (tNum t) (tNum u) t u G), ?_, ?_, ?_⟩
        · unfold aDo
          dsimp only
          rw [if_neg (by rw [af]; decide), if_neg (by omega), if_pos (by omega)]
          exact eC_G
        · have := VR_num (n := n) (code := aSignWord g) (x := tNum t) (y := tNum u) (y' := Int32.ofInt (tNum u)) (v := t) (u := u) h (by omega) ⟨n2, n3⟩ (fun _ _ => ⟨rfl, m2, m3⟩)
          have b97 : ∀ s0 : Int32, m_Model_binary_b97 n i j a b x y s0 = m_Model_numbers n i j a b s0 (Int32.ofInt (tNum t)) (Int32.ofInt (tNum u)) := fun s0 => by
            unfold m_Model_binary_b97
            rw [n1, ob0_s, m1, ob0_s, om_id]
          rw [b97, b97, b97, b97, b97, b97]
          rcases sg_cases hg with rfl | rfl | rfl | rfl | rfl | rfl | rfl
          · exact absurd rfl c
          · rw [if_pos (by decide)]; exact this
          · rw [if_neg (by decide), if_pos (by decide)]; exact this
          · rw [if_neg (by decide), if_neg (by decide), if_pos (by decide)]; exact this
          · rw [if_neg (by decide), if_neg (by decide), if_neg (by decide), if_pos (by decide)]; exact this
          · rw [if_neg (by decide), if_neg (by decide), if_neg (by decide), if_neg (by decide), if_pos (by decide)]; exact this
          · rw [if_neg (by decide), if_neg (by decide), if_neg (by decide), if_neg (by decide), if_neg (by decide)]; exact this
        · intro G' N' F' v e
          rw [rTG_n hcode] at e
          unfold rNo at e
          split at e
          · cases e; rfl
          · cases e

