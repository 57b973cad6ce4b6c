/-! levels that are begun -/
theorem lev_begin {f : Nat → Int32} {T : Nat} {k1 k2 k3 k4 k5 k6 k7 k8 k9 k10 w1 w2 w3 w4 w5 w6 w7 w8 : Nat → Int32} {k1' k2' k3' k4' k5' k6' k7' k8' k9' k10' : Nat → Int32} {L : List Lv} {F F2 : List Fr} {kind lim mark : Nat} {lst oth tag : Tr} (h : lvR f T k1 k2 k3 k4 k5 k6 k7 k8 k9 k10 w1 w2 w3 w4 w5 w6 w7 w8 L F) (hag : agL L.length k1 k2 k3 k4 k5 k6 k7 k8 k9 k10 w1 w2 w3 w4 w5 w6 w7 w8 k1' k2' k3' k4' k5' k6' k7' k8' k9' k10') (e1 : k1' L.length = nI kind) (e2 : cV f T lst none (k2' L.length)) (e3 : k3' L.length = nI 0) (e4 : k4' L.length = nI 1) (e5 : k5' L.length = nI lim) (e6 : kind = 4 ∨ kind = 5 ∨ kind = 9 ∨ kind = 10 → cV f T oth none (k6' L.length)) (e7 : kind = 1 ∨ kind = 7 → k7' L.length = nI mark) (e8 : kind = 8 → cV f T tag none (k7' L.length)) (e9 : k8' L.length = nI (lvWaits L)) (e10 : k9' L.length = nI (lvVals L)) (hF : if kind = 1 then ∃ fr, F2 = fr :: F ∧ fr.1 = mark ∧ k10' L.length = nI (frLocs F) else F2 = F) : lvR f T k1' k2' k3' k4' k5' k6' k7' k8' k9' k10' w1 w2 w3 w4 w5 w6 w7 w8 (lNew kind lst lim oth mark tag :: L) F2 := by
  rw [lvR]
  have hL := lvR_keep (Nat.le_refl _) (fun _ _ => rfl) L F hag agW_refl (fun _ _ => rfl) h
  refine ⟨⟨e1, e2, e3, e4, e5, e6, e7, e8, e9, e10, fun k hk => absurd hk (Nat.not_lt_zero k), trivial⟩, ?_⟩
  show if kind = 1 then _ else _
  split at hF
  · next hk =>
    rw [if_pos hk]
    obtain ⟨fr, h1, h2, h3⟩ := hF
    exact ⟨fr, F, h1, h2, h3, hL⟩
  · next hk =>
    rw [if_neg hk, hF]
    exact hL
def opA (a : Nat → Nat → Int32) (d : Nat) (v1 v2 W V : Int32) : Nat → Nat → Int32 := sv (sv (sv (sv (sv (sv (sv (sv (sv (sv a 37 d v1) 38 d v2) 39 d (nI 0)) 40 d (nI 1)) 41 d (nI 1)) 42 d (-nI 2147483648)) 43 d (-nI 2147483648)) 44 d W) 45 d V) 46 d (nI 0)
theorem h_Lopen {n : Nat} {g : Nat → Nat} {i : Nat → Int32} {a : Nat → Nat → Int32} {T : Nat} {G : GS} {N : LN} {F : List Fr} {L : List Lv} {v1 v2 : Int32} (h : CI g i a T G N F L) (h43 : i 43 = nI (lvVals L)) (hL : L.length < 150) : m_Line_open n g i a v1 v2 = some (upd i 40 (nI (L.length + 1)), opA a L.length v1 v2 (nI (lvWaits L)) (nI (lvVals L)), nI 1) := by
  have h40 := h.2.2.2.2.1
  have h42 := h.2.2.2.2.2.2.1
  unfold m_Line_open opA
  simp (disch := omega) only [ob_s, ob0_s, ob1_s, i32_lit, ile_p, ile_n, ilt_p, ilt_n, ieq_p, ieq_n, ck_n, cl_n, sub_n, nI_add, sh_w, sh_l, an3_w, an3_l, an1_w, an1_l, hN_1, hN_3w, hN_3l, if_true, if_false, h40, h42, h43]
theorem h_Lfull {n : Nat} {g : Nat → Nat} {i : Nat → Int32} {a : Nat → Nat → Int32} {T : Nat} {G : GS} {N : LN} {F : List Fr} {L : List Lv} {v1 v2 : Int32} (h : CI g i a T G N F L) (hL : L.length = 150) : m_Line_open n g i a v1 v2 = some (i, a, nI 0) := by
  have h40 := h.2.2.2.2.1
  unfold m_Line_open
  simp (disch := omega) only [ob_s, ob0_s, ob1_s, i32_lit, ile_p, ile_n, ilt_p, ilt_n, ieq_p, ieq_n, ck_n, cl_n, sub_n, nI_add, sh_w, sh_l, an3_w, an3_l, an1_w, an1_l, hN_1, hN_3w, hN_3l, if_true, if_false, h40, hL]
theorem lvCalls_new {kind lim mark : Nat} {lst oth tag : Tr} {L : List Lv} (hk : kind ≠ 1) : lvCalls (lNew kind lst lim oth mark tag :: L) = lvCalls L := by
  rw [lvCalls, if_neg (show ¬ lK (lNew kind lst lim oth mark tag) = 1 from hk), Nat.zero_add]
theorem lvVals_new {kind lim mark : Nat} {lst oth tag : Tr} {L : List Lv} : lvVals (lNew kind lst lim oth mark tag :: L) = lvVals L := by
  show 0 + 0 + lvVals L = lvVals L
  omega
theorem lvWaits_new {kind lim mark : Nat} {lst oth tag : Tr} {L : List Lv} : lvWaits (lNew kind lst lim oth mark tag :: L) = lvWaits L := by
  show 0 + lvWaits L = lvWaits L
  omega
/-- a level of another kind than a call -/
theorem h_open {n : Nat} {g : Nat → Nat} {i : Nat → Int32} {a : Nat → Nat → Int32} {T : Nat} {G : GS} {N : LN} {F : List Fr} {L : List Lv} {kind mark : Nat} {lst oth tag : Tr} {x mk ot : Int32} (hn : 2000 ≤ n) (h : CI g i a T G N F L) (hl : lvOk F L (nMade N)) (h44 : i 44 = nI 0) (h43 : i 43 = nI (lvVals L)) (h46 : i 46 = nI 0) (hk : kind ≠ 1) (hx : cV (a 0) T lst none x) (e6 : kind = 4 ∨ kind = 5 ∨ kind = 9 ∨ kind = 10 → cV (a 0) T oth none ot) (e7 : kind = 7 → mk = nI mark) (e8 : kind = 8 → cV (a 0) T tag none mk) : (L.length < 150 → ∃ a', m_Machine_open n g i a (nI kind) x mk ot = some (upd i 40 (nI (L.length + 1)), a', -nI 2147483584) ∧ CI g (upd i 40 (nI (L.length + 1))) a' T G N F (lNew kind lst 1 oth mark tag :: L)) ∧ (150 ≤ L.length → m_Machine_open n g i a (nI kind) x mk ot = some (i, a, -nI 2147483642)) := by
  constructor
  · intro hL
    have eo := h_Lopen (n := n) (v1 := nI kind) (v2 := x) h h43 hL
    refine ⟨sv (sv (opA a L.length (nI kind) x (nI (lvWaits L)) (nI (lvVals L))) 43 L.length mk) 42 L.length ot, ?_, ?_⟩
    · unfold m_Machine_open m_Line_note
      have e40 : upd i 40 (nI (L.length + 1)) 40 = nI (L.length + 1) := rfl
      simp (disch := omega) only [ob_s, ob0_s, ob1_s, i32_lit, ile_p, ile_n, ilt_p, ilt_n, ieq_p, ieq_n, ck_n, cl_n, sub_n, nI_add, sh_w, sh_l, an3_w, an3_l, an1_w, an1_l, hN_1, hN_3w, hN_3l, if_true, if_false, eo, e40, show L.length + 1 - 1 = L.length by omega]
    · obtain ⟨b1, b2, b3, b4, b5, b6, b7, b8⟩ := h
      refine ⟨b1, b2, b3, b4, rfl, by rw [lvCalls_new hk]; exact b6, by rw [lvWaits_new]; exact b7, ?_⟩
      refine lev_begin b8 (fun d hd => ⟨upd_ne (by omega), upd_ne (by omega), upd_ne (by omega), upd_ne (by omega), upd_ne (by omega), ?_, ?_, upd_ne (by omega), upd_ne (by omega), upd_ne (by omega)⟩) upd_at ?_ upd_at upd_at upd_at (fun q => ?_) (fun q => ?_) (fun q => ?_) upd_at upd_at (by rw [if_neg hk])
      · exact (upd_ne (by omega)).trans (upd_ne (by omega))
      · exact (upd_ne (by omega)).trans (upd_ne (by omega))
      · show cV (a 0) T lst none (upd (a 38) L.length x L.length)
        rw [upd_at]; exact hx
      · show cV (a 0) T oth none (upd (upd (a 42) L.length _) L.length ot L.length)
        rw [upd_at]; exact e6 q
      · show upd (upd (a 43) L.length _) L.length mk L.length = nI mark
        rw [upd_at]; exact e7 (by omega)
      · show cV (a 0) T tag none (upd (upd (a 43) L.length _) L.length mk L.length)
        rw [upd_at]; exact e8 q
  · intro hL
    have e9 : L.length = 150 := by have := hl.2.1; omega
    have eo := h_Lfull (n := n) (v1 := nI kind) (v2 := x) h e9
    unfold m_Machine_open
    simp (disch := omega) only [ob_s, ob0_s, ob1_s, i32_lit, ile_p, ile_n, ilt_p, ilt_n, ieq_p, ieq_n, ck_n, cl_n, sub_n, nI_add, sh_w, sh_l, an3_w, an3_l, an1_w, an1_l, hN_1, hN_3w, hN_3l, if_true, if_false, eo]
/-- a word that begins a level -/
theorem h_openT {n : Nat} {g : Nat → Nat} {i : Nat → Int32} {a : Nat → Nat → Int32} {T : Nat} {G : GS} {N : LN} {F : List Fr} {L : List Lv} {kind mark : Nat} {lst oth tag : Tr} {x mk ot : Int32} (hn : 2000 ≤ n) (h : CI g i a T G N F L) (hl : lvOk F L (nMade N)) (h44 : i 44 = nI 0) (h43 : i 43 = nI (lvVals L)) (h46 : i 46 = nI 0) (hk : kind ≠ 1) (hx : cV (a 0) T lst none x) (e6 : kind = 4 ∨ kind = 5 ∨ kind = 9 ∨ kind = 10 → cV (a 0) T oth none ot) (e7 : kind = 7 → mk = nI mark) (e8 : kind = 8 → cV (a 0) T tag none mk) : TK n g T (m_Machine_open n g i a (nI kind) x mk ot) (aOpen G N F L (lNew kind lst 1 oth mark tag)) := by
  obtain ⟨o1, o2⟩ := h_open hn h hl h44 h43 h46 hk hx e6 e7 e8
  unfold aOpen
  rcases Nat.lt_or_ge L.length 150 with hL | hL
  · rw [if_neg (by omega)]
    obtain ⟨a', q1, q2⟩ := o1 hL
    exact TK_el q1 (CR_0 q2 h46 h44 (by rw [lvVals_new]; exact h43))
  · rw [if_pos hL]
    exact TK_er (e := 6) (o2 hL) (by omega) h hl h44 (by decide) (by decide)
theorem lev_lim {f : Nat → Int32} {T : Nat} {k1 k2 k3 k4 k5 k6 k7 k8 k9 k10 w1 w2 w3 w4 w5 w6 w7 w8 : Nat → Int32} {l : Lv} {R : List Lv} {F : List Fr} {q : Nat} (h : lvR f T k1 k2 k3 k4 k5 k6 k7 k8 k9 k10 w1 w2 w3 w4 w5 w6 w7 w8 (l :: R) F) : lvR f T k1 k2 k3 k4 (upd k5 R.length (nI q)) k6 k7 k8 k9 k10 w1 w2 w3 w4 w5 w6 w7 w8 ((lK l, lLst l, lNx l, lTurns l, q, lOth l, lMark l, lTag l, lWs l, lVals l) :: R) F := by
  rw [lvR] at h ⊢
  obtain ⟨⟨l1, l2, l3, l4, l5, l6⟩, h2⟩ := h
  refine ⟨⟨l1, l2, l3, l4, upd_at, l6⟩, ?_⟩
  have hag : agL R.length k1 k2 k3 k4 k5 k6 k7 k8 k9 k10 w1 w2 w3 w4 w5 w6 w7 w8 k1 k2 k3 k4 (upd k5 R.length (nI q)) k6 k7 k8 k9 k10 := fun d hd => ⟨rfl, rfl, rfl, rfl, upd_ne (by omega), rfl, rfl, rfl, rfl, rfl⟩
  show if lK l = 1 then _ else _
  split at h2
  · next hk =>
    rw [if_pos hk]
    obtain ⟨fr, F', e1, e2, e3, e4⟩ := h2
    exact ⟨fr, F', e1, e2, e3, lvR_keep (Nat.le_refl _) (fun _ _ => rfl) R F' hag agW_refl (fun _ _ => rfl) e4⟩
  · next hk =>
    rw [if_neg hk]
    exact lvR_keep (Nat.le_refl _) (fun _ _ => rfl) R F hag agW_refl (fun _ _ => rfl) h2
theorem lev_turn {f : Nat → Int32} {T : Nat} {k1 k2 k3 k4 k5 k6 k7 k8 k9 k10 w1 w2 w3 w4 w5 w6 w7 w8 : Nat → Int32} {l : Lv} {R : List Lv} {F : List Fr} {q : Nat} (h : lvR f T k1 k2 k3 k4 k5 k6 k7 k8 k9 k10 w1 w2 w3 w4 w5 w6 w7 w8 (l :: R) F) : lvR f T k1 k2 (upd k3 R.length (nI 0)) (upd k4 R.length (nI q)) k5 k6 k7 k8 k9 k10 w1 w2 w3 w4 w5 w6 w7 w8 ((lK l, lLst l, 0, q, lLim l, lOth l, lMark l, lTag l, lWs l, lVals l) :: R) F := by
  rw [lvR] at h ⊢
  obtain ⟨⟨l1, l2, l3, l4, l5⟩, h2⟩ := h
  refine ⟨⟨l1, l2, upd_at, upd_at, l5⟩, ?_⟩
  have hag : agL R.length k1 k2 k3 k4 k5 k6 k7 k8 k9 k10 w1 w2 w3 w4 w5 w6 w7 w8 k1 k2 (upd k3 R.length (nI 0)) (upd k4 R.length (nI q)) k5 k6 k7 k8 k9 k10 := fun d hd => ⟨rfl, rfl, upd_ne (by omega), upd_ne (by omega), rfl, rfl, rfl, rfl, rfl, rfl⟩
  show if lK l = 1 then _ else _
  split at h2
  · next hk =>
    rw [if_pos hk]
    obtain ⟨fr, F', e1, e2, e3, e4⟩ := h2
    exact ⟨fr, F', e1, e2, e3, lvR_keep (Nat.le_refl _) (fun _ _ => rfl) R F' hag agW_refl (fun _ _ => rfl) e4⟩
  · next hk =>
    rw [if_neg hk]
    exact lvR_keep (Nat.le_refl _) (fun _ _ => rfl) R F hag agW_refl (fun _ _ => rfl) h2
theorem h_turn {n : Nat} {g : Nat → Nat} {i : Nat → Int32} {a : Nat → Nat → Int32} {T : Nat} {G : GS} {N : LN} {F : List Fr} {l : Lv} {R : List Lv} (hn : 2000 ≤ n) (h : CI g i a T G N F (l :: R)) (hl : lvOk F (l :: R) (nMade N)) (h46 : i 46 = nI 0) (h44 : i 44 = nI 0) (h43 : i 43 = nI (lvVals (l :: R))) : TK n g T (m_Machine_beginTurn n g i a) (G, N, F, aTurnOn l :: R, 0, none, none) := by
  obtain ⟨d1, d2⟩ := lev_d (n := n) h hl
  obtain ⟨l1, l2, l3, l4, l5⟩ := lev_1 h
  have hlo := hl.1 l List.mem_cons_self
  have hk10 := hlo.1
  have ht := hlo.2.2.2.2.1
  unfold m_Machine_beginTurn aTurnOn
  rcases Classical.em (lK l = 4) with h4 | h4
  · rw [if_pos h4]
    obtain ⟨i', a', x, i2, k1, k2, k3⟩ := h_change (n := n) (q := 9) h hl h44 h43 (Or.inr ⟨h4, rfl⟩)
    refine ⟨i', a', x, i2, ?_, k2, k3⟩
    simp (disch := omega) only [ob_s, ob0_s, ob1_s, i32_lit, ile_p, ile_n, ilt_p, ilt_n, ieq_p, ieq_n, ck_n, cl_n, sub_n, nI_add, sh_w, sh_l, an3_w, an3_l, an1_w, an1_l, hN_1, hN_3w, hN_3l, if_true, if_false, d1, l1, h4, k1]
  · rw [if_neg h4]
    obtain ⟨b1, b2, b3, b4, b5, b6, b7, b8⟩ := h
    refine TK_el (i := i) (a := sv (sv a 40 R.length (nI (lTurns l + 1))) 39 R.length (nI 0)) ?_ (CR_0 ⟨b1, b2, b3, b4, b5, b6, b7, lev_turn b8⟩ h46 h44 h43)
    simp (disch := omega) only [ob_s, ob0_s, ob1_s, i32_lit, ile_p, ile_n, ilt_p, ilt_n, ieq_p, ieq_n, ck_n, cl_n, sub_n, nI_add, sh_w, sh_l, an3_w, an3_l, an1_w, an1_l, hN_1, hN_3w, hN_3l, if_true, if_false, d1, l1, l4]
/-! a call -/
theorem rLoc_add {f : Nat → Int32} {T : Nat} {cnt : Int32} {nm vl : Nat → Int32} {c : Nat} {l : List Loc} {F : List Fr} {w : Nm} {o : Option Tr} {x y : Int32} (h : rLoc f T cnt nm vl ((c, l) :: F)) (hr : frLocs ((c, l) :: F) < 1800) (hx : cV f T (tW w) none x) (hy : oV f T o y) : rLoc f T (nI (frLocs ((c, l) :: F) + 1)) (upd nm (frLocs ((c, l) :: F)) x) (upd vl (frLocs ((c, l) :: F)) y) ((c, l ++ [(w, o)]) :: F) := by
  obtain ⟨h1, h2, h3⟩ := h
  have e : frLocs ((c, l ++ [(w, o)]) :: F) = frLocs ((c, l) :: F) + 1 := by
    show (l ++ [(w, o)]).length + frLocs F = l.length + frLocs F + 1
    rw [List.length_append, List.length_singleton]
    omega
  have e0 : frLocs ((c, l) :: F) = l.length + frLocs F := rfl
  refine ⟨by rw [e], by omega, fun k hk => ?_⟩
  rw [e] at hk
  rcases Nat.lt_or_ge k (frLocs ((c, l) :: F)) with h9 | h9
  · rw [upd_ne (by omega), upd_ne (by omega)]
    have q := h3 k h9
    rw [fNm, fVl] at q ⊢
    rcases Nat.lt_or_ge k (frLocs F) with h8 | h8
    · rw [if_neg (by omega), if_neg (by omega)] at q ⊢
      exact q
    · rw [if_pos h8, if_pos h8] at q ⊢
      have h7 : k - frLocs F < l.length := by omega
      show cV f T (tW ((l ++ [(w, o)]).getD _ _).1) none _ ∧ oV f T ((l ++ [(w, o)]).getD _ _).2 _
      have q : cV f T (tW (l.getD (k - frLocs F) ([], none)).1) none _ ∧ oV f T (l.getD (k - frLocs F) ([], none)).2 _ := q
      rw [getD_in h7] at q
      rw [getD_in (by rw [List.length_append]; omega), List.getElem_append_left h7]
      exact q
  · obtain rfl : k = frLocs ((c, l) :: F) := by omega
    rw [upd_at, upd_at, fNm, fVl, if_pos (by omega), if_pos (by omega)]
    show cV f T (tW ((l ++ [(w, o)]).getD _ _).1) none _ ∧ oV f T ((l ++ [(w, o)]).getD _ _).2 _
    have e9 : frLocs ((c, l) :: F) - frLocs F = l.length := by omega
    rw [e9, getD_in (by simp), List.getElem_append_right (Nat.le_refl _)]
    simp
    exact ⟨hx, hy⟩
theorem h_addLocal {n : Nat} {g : Nat → Nat} {i : Nat → Int32} {a : Nat → Nat → Int32} {q : Nat} {x y : Int32} (h : i 13 = nI q) (hq : q < 1800) : m_Names_addLocal n g i a x y = some (upd i 13 (nI (q + 1)), sv (sv a 12 q x) 13 q y, nI 0) := by
  unfold m_Names_addLocal
  simp (disch := omega) only [ob_s, ob0_s, ob1_s, i32_lit, ile_p, ile_n, ilt_p, ilt_n, ieq_p, ieq_n, ck_n, cl_n, sub_n, nI_add, sh_w, sh_l, an3_w, an3_l, an1_w, an1_l, hN_1, hN_3w, hN_3l, if_true, if_false, h]
theorem lvR_top {f : Nat → Int32} {T : Nat} {k1 k2 k3 k4 k5 k6 k7 k8 k9 k10 w1 w2 w3 w4 w5 w6 w7 w8 : Nat → Int32} {c : Nat} {l l2 : List Loc} {F : List Fr} : ∀ {L : List Lv}, lvR f T k1 k2 k3 k4 k5 k6 k7 k8 k9 k10 w1 w2 w3 w4 w5 w6 w7 w8 L ((c, l) :: F) → lvR f T k1 k2 k3 k4 k5 k6 k7 k8 k9 k10 w1 w2 w3 w4 w5 w6 w7 w8 L ((c, l2) :: F) := by
  intro L
  induction L with
  | nil => intro h; cases h
  | cons x R ih =>
    intro h
    rw [lvR] at h ⊢
    refine ⟨h.1, ?_⟩
    have h2 := h.2
    split at h2
    · next hk =>
      rw [if_pos hk]
      obtain ⟨fr, F', e1, e2, e3, e4⟩ := h2
      cases e1
      exact ⟨(c, l2), F, rfl, e2, e3, e4⟩
    · next hk =>
      rw [if_neg hk]
      exact ih h2
theorem h_locals_b {n : Nat} {g : Nat → Nat} {T : Nat} {G : GS} {N : LN} {F : List Fr} {L : List Lv} {c V : Nat} {names : List Nm} {vals : List Tr} {v2 : Int32} (hlen : names.length = vals.length) (h5 : names.length ≤ 5) (hroom : frLocs F ≤ 1788) (hV : V ≤ 31600) : ∀ (m k f : Nat) (i : Nat → Int32) (a : Nat → Nat → Int32), names.length = k + m → m < f → CI g i a T G N ((c, (names.zip (vals.map some)).take k) :: F) L → i 43 = nI V → vsR (a 0) T (a 54) V vals → cV (a 0) T (tL (names.map tW)) none v2 → ∃ i' a', m_Machine_openCall_b105 n g f i a v2 (nI names.length) (nI k) = some (i', a', -nI 2147483584) ∧ CI g i' a' T G N ((c, names.zip (vals.map some)) :: F) L ∧ i' 43 = i 43 ∧ i' 44 = i 44 ∧ i' 46 = i 46 := by
  intro m
  induction m with
  | zero =>
    intro k f i a e hf h h43 hv hl
    obtain ⟨f, rfl⟩ : ∃ f', f = f' + 1 := ⟨f - 1, by omega⟩
    refine ⟨i, a, ?_, ?_, rfl, rfl, rfl⟩
    · rw [m_Machine_openCall_b105]
      simp (disch := omega) only [ob_s, ob0_s, ob1_s, i32_lit, ile_p, ile_n, ilt_p, ilt_n, ieq_p, ieq_n, ck_n, cl_n, sub_n, nI_add, sh_w, sh_l, an3_w, an3_l, an1_w, an1_l, hN_1, hN_3w, hN_3l, if_true, if_false]
    · rw [List.take_of_length_le (by rw [List.length_zip, List.length_map]; omega)] at h
      exact h
  | succ m ih =>
    intro k f i a e hf h h43 hv hl
    obtain ⟨f, rfl⟩ : ∃ f', f = f' + 1 := ⟨f - 1, by omega⟩
    obtain ⟨a1, a2, a3, a4, a5, a6, a7, a8, a9⟩ := h.1
    have hk : k < names.length := by omega
    have hzl : (names.zip (vals.map some)).length = names.length := by rw [List.length_zip, List.length_map]; omega
    obtain ⟨x, q1, q2⟩ := h_member (n := n) (i := i) a3 a5 hl (k := k) (by rw [List.length_map]; exact hk)
    rw [List.getElem_map] at q2
    have hin : m_Waiting_input n g i a (nI k) = some (a 54 (V + k)) := by
      unfold m_Waiting_input
      simp (disch := omega) only [ob_s, ob0_s, ob1_s, i32_lit, ile_p, ile_n, ilt_p, ilt_n, ieq_p, ieq_n, ck_n, cl_n, sub_n, nI_add, sh_w, sh_l, an3_w, an3_l, an1_w, an1_l, hN_1, hN_3w, hN_3l, if_true, if_false, h43]
    have hy := hv k (by omega)
    obtain ⟨b1, b2, b3, b4, b5⟩ := h
    have etot : frLocs ((c, (names.zip (vals.map some)).take k) :: F) = k + frLocs F := by
      show ((names.zip (vals.map some)).take k).length + frLocs F = _
      rw [List.length_take, hzl]
      omega
    have ha := h_addLocal (n := n) (g := g) (a := a) (x := x) (y := a 54 (V + k)) b4.1 (by omega)
    have hloc := rLoc_add (w := names[k]) (o := some vals[k]) b4 (by omega) q2 hy
    have etake : (names.zip (vals.map some)).take (k + 1) = (names.zip (vals.map some)).take k ++ [(names[k], some vals[k])] := by
      rw [List.take_add_one, List.getElem?_eq_getElem (by omega), List.getElem_zip, List.getElem_map]
      rfl
    have hci : CI g (upd i 13 (nI (frLocs ((c, (names.zip (vals.map some)).take k) :: F) + 1))) (sv (sv a 12 (frLocs ((c, (names.zip (vals.map some)).take k) :: F)) x) 13 (frLocs ((c, (names.zip (vals.map some)).take k) :: F)) (a 54 (V + k))) T G N ((c, (names.zip (vals.map some)).take (k + 1)) :: F) L := by
      rw [etake]
      refine ⟨b1, b2, b3, hloc, b5.1, b5.2.1, b5.2.2.1, ?_⟩
      exact lvR_top b5.2.2.2
    obtain ⟨i', a', p1, p2, p3, p4, p5⟩ := ih (k + 1) f _ _ (by omega) (by omega) hci h43 hv hl
    refine ⟨i', a', ?_, p2, p3, p4, p5⟩
    rw [m_Machine_openCall_b105]
    simp (disch := omega) only [ob_s, ob0_s, ob1_s, i32_lit, ile_p, ile_n, ilt_p, ilt_n, ieq_p, ieq_n, ck_n, cl_n, sub_n, nI_add, sh_w, sh_l, an3_w, an3_l, an1_w, an1_l, hN_1, hN_3w, hN_3l, if_true, if_false, q1, hin, ha]
    exact p1

