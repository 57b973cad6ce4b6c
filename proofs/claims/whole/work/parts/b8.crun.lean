/-! the words that run lists; a call -/
theorem h_openCall {n : Nat} {g : Nat → Nat} {i : Nat → Int32} {a : Nat → Nat → Int32} {T : Nat} {G : GS} {N : LN} {F : List Fr} {L : List Lv} {vs : List Tr} {w : Wt} (hn : 2000 ≤ n) (h : INP g i a T G N F L (wVals w)) (hw : wtR (a 0) T (a 47) (a 48) (a 49) (a 50) (a 51) (a 52) (a 53) (a 54) (lvWaits L) (lvVals L) w) (hk : wK w = 2) (hwo : wOk w) (hvl : (wVals w).length = wNeed w) : TK n g T (m_Machine_openCall n g i a (nI (lvWaits L))) (aCall w G N F L) := by
  obtain ⟨hc, hl, hg, hNn, h44, h43, h46, hroom, hvs⟩ := h
  obtain ⟨a1, a2, a3, a4, a5, a6, a7, a8, a9⟩ := hc.1
  obtain ⟨r1, r2, r3, r4, r5, r6, r7⟩ := hw
  obtain ⟨r61, r62⟩ := r6 hk
  have hW := hl.2.2.1
  obtain ⟨o1, o2, o3, o4, o5, o6, o7⟩ := hwo
  obtain ⟨p1, p2, p3, p4⟩ := o6 hk
  have hLl := hl.2.1
  unfold m_Machine_openCall aCall
  rcases Nat.lt_or_ge L.length 150 with hL | hL
  · rw [if_neg (by omega)]
    have eo := h_Lopen (n := n) (v1 := nI 1) (v2 := a 53 (lvWaits L)) hc h43 hL
    obtain ⟨b1, b2, b3, b4, b5, b6, b7, b8⟩ := hc
    have hfl := frLocs_le hl.2.2.2.2.2.1
    have hcl := lvCalls_le L
    have hFl : frLocs F ≤ 1788 := by
      have := hl.2.2.2.2.1
      omega
    have hci : CI g (upd (upd i 40 (nI (L.length + 1))) 41 (nI (lvCalls L + 1))) (sv (sv (sv (opA a L.length (nI 1) (a 53 (lvWaits L)) (nI (lvWaits L)) (nI (lvVals L))) 43 L.length (nI (wCode w))) 42 L.length (-nI 2147483648)) 46 L.length (nI (frLocs F))) T G N ((wCode w, ((wNames w).zip ((wVals w).map some)).take 0) :: F) (lNew 1 (wBody w) 1 .nil (wCode w) .nil :: L) := by
      refine ⟨b1, b2, b3, ?_, rfl, ?_, by rw [lvWaits_new]; exact b7, ?_⟩
      · obtain ⟨c1, c2, c3⟩ := b4
        have ez : frLocs ((wCode w, ((wNames w).zip ((wVals w).map some)).take 0) :: F) = frLocs F := by
          show 0 + frLocs F = _
          omega
        refine ⟨by rw [ez]; exact c1, by rw [ez]; exact c2, fun k hk9 => ?_⟩
        rw [ez] at hk9
        have := c3 k hk9
        rw [fNm, fVl, if_neg (by omega), if_neg (by omega)]
        exact this
      · show nI (lvCalls L + 1) = nI (lvCalls (lNew 1 (wBody w) 1 .nil (wCode w) .nil :: L))
        congr 1
        rw [lvCalls, if_pos (show lK (lNew 1 (wBody w) 1 .nil (wCode w) .nil) = 1 from rfl)]
        omega
      · refine lev_begin b8 (fun d hd => ⟨upd_ne (by omega), upd_ne (by omega), upd_ne (by omega), upd_ne (by omega), upd_ne (by omega), (upd_ne (by omega)).trans (upd_ne (by omega)), (upd_ne (by omega)).trans (upd_ne (by omega)), upd_ne (by omega), upd_ne (by omega), (upd_ne (by omega)).trans (upd_ne (by omega))⟩) upd_at ?_ upd_at upd_at upd_at (fun q => by omega) (fun q => ?_) (fun q => by omega) upd_at upd_at ?_
        · show cV (a 0) T (wBody w) none (upd (a 38) L.length (a 53 (lvWaits L)) L.length)
          rw [upd_at]; exact r62
        · show upd (upd (a 43) L.length _) L.length (nI (wCode w)) L.length = nI (wCode w)
          rw [upd_at]
        · rw [if_pos rfl]
          refine ⟨_, rfl, rfl, ?_⟩
          show upd (upd (a 46) L.length _) L.length (nI (frLocs F)) L.length = nI (frLocs F)
          rw [upd_at]
    have hcnt := h_count (n := n) (g := g) (i := upd (upd i 40 (nI (L.length + 1))) 41 (nI (lvCalls L + 1))) (a := sv (sv (sv (opA a L.length (nI 1) (a 53 (lvWaits L)) (nI (lvWaits L)) (nI (lvVals L))) 43 L.length (nI (wCode w))) 42 L.length (-nI 2147483648)) 46 L.length (nI (frLocs F))) a3 a5 r61
    rw [tMem_tL, List.length_map] at hcnt
    obtain ⟨i', a', q1, q2, q3, q4, q5⟩ := h_locals_b (n := n) (c := wCode w) (V := lvVals L) (names := wNames w) (vals := wVals w) (v2 := a 52 (lvWaits L)) (by omega) (by omega) hFl hroom (wNames w).length 0 n _ _ (by omega) (by omega) hci h43 hvs r61
    refine TK_el (i := i') (a := a') ?_ (CR_0 q2 ?_ ?_ ?_)
    · unfold m_Line_note
      have e40 : upd i 40 (nI (L.length + 1)) 40 = nI (L.length + 1) := rfl
      have e13 : upd i 40 (nI (L.length + 1)) 13 = nI (frLocs F) := b4.1
      have e41 : upd i 40 (nI (L.length + 1)) 41 = nI (lvCalls L) := b6
      have e48 : opA a L.length (nI 1) (a 53 (lvWaits L)) (nI (lvWaits L)) (nI (lvVals L)) 48 = a 48 := rfl
      have e52 : (sv (sv (sv (opA a L.length (nI 1) (a 53 (lvWaits L)) (nI (lvWaits L)) (nI (lvVals L))) 43 L.length (nI (wCode w))) 42 L.length (-nI 2147483648)) 46 L.length (nI (frLocs F))) 52 = a 52 := rfl
      simp (disch := omega) only [ob_s, ob0_s, ob1_s, i32_lit, ile_p, ile_n, ilt_p, ilt_n, ieq_p, ieq_n, ck_n, cl_n, sub_n, nI_add, sh_w, sh_l, an3_w, an3_l, an1_w, an1_l, hN_1, hN_3w, hN_3l, if_true, if_false, eo, e40, e13, e41, e48, e52, r2, hcnt, show L.length + 1 - 1 = L.length by omega]
      exact q1
    · rw [q5]; exact h46
    · rw [q4]; exact h44
    · rw [q3, lvVals_new]; exact h43
  · rw [if_pos hL]
    have eo := h_Lfull (n := n) (v1 := nI 1) (v2 := a 53 (lvWaits L)) hc (by omega)
    refine TK_er (e := 6) (i := i) (a := a) ?_ (by omega) hc hl h44 (by decide) (by decide)
    simp (disch := omega) only [ob_s, ob0_s, ob1_s, i32_lit, ile_p, ile_n, ilt_p, ilt_n, ieq_p, ieq_n, ck_n, cl_n, sub_n, nI_add, sh_w, sh_l, an3_w, an3_l, an1_w, an1_l, hN_1, hN_3w, hN_3l, if_true, if_false, eo]
theorem fit_at : ∀ {ks : List Nat} {vs : List Tr}, aFits ks vs = true → vs.length = ks.length → ∀ k (h : k < ks.length) (h2 : k < vs.length), aFit1 ks[k] vs[k] = true := by
  intro ks
  induction ks with
  | nil => intro vs _ _ k h; exact absurd h (Nat.not_lt_zero k)
  | cons c ks ih =>
    intro vs hf hl k h h2
    cases vs with
    | nil => exact absurd h2 (Nat.not_lt_zero k)
    | cons v vs =>
      rw [aFits, Bool.and_eq_true] at hf
      cases k with
      | zero => exact hf.1
      | succ k => exact ih hf.2 (by simpa using hl) k (by simpa using h) (by simpa using h2)
theorem inp_at {vs : List Tr} {k : Nat} {v : Tr} (h : k < vs.length) (hv : vs.getD k .nil = v) : vs[k]? = some v := by
  rw [getD_in h] at hv
  rw [List.getElem?_eq_getElem h, hv]
/-- an input, as its word wants it -/
theorem h_in {n : Nat} {g : Nat → Nat} {i : Nat → Int32} {a : Nat → Nat → Int32} {T : Nat} {G : GS} {N : LN} {F : List Fr} {L : List Lv} {vs : List Tr} {code k c : Nat} {v : Tr} (h : INP g i a T G N F L vs) (hl : vs.length = (aKind code).length) (hf : aFits (aKind code) vs = true) (hv : vs.getD k .nil = v) (hc : (aKind code)[k]? = some c) (hk : k ≤ 100) : ∃ x, m_Waiting_input n g i a (nI k) = some x ∧ cV (a 0) T v none x ∧ aFit1 c v = true ∧ vs[k]? = some v := by
  have hlt : k < (aKind code).length := by
    rcases Nat.lt_or_ge k (aKind code).length with h | h
    · exact h
    · rw [List.getElem?_eq_none h] at hc; cases hc
  have e := inp_at (by omega : k < vs.length) hv
  obtain ⟨x, q1, q2⟩ := h_input (n := n) h hk
  refine ⟨x, q1, q2 v e, ?_, e⟩
  have := fit_at hf hl k hlt (by omega)
  rw [List.getElem?_eq_getElem hlt] at hc
  cases hc
  rw [List.getElem?_eq_getElem (by omega)] at e
  cases e
  exact this
theorem fit_b {v : Tr} (h : aFit1 98 v = true) : isW v = true := by
  have h : (isW v && (tLet v == wTrue || tLet v == wFalse)) = true := h
  rw [Bool.and_eq_true] at h
  exact h.1
theorem aOpen_mp (g : GS) (n : LN) (F : List Fr) (L : List Lv) (kind lim mark : Nat) (lst oth tag : Tr) (hk : kind ≠ 10) : cMp (aOpen g n F L (lNew kind lst lim oth mark tag)) ≤ mapPot L ∧ cMd (aOpen g n F L (lNew kind lst lim oth mark tag)) = nMade n := by
  unfold aOpen
  split
  · exact aFail_mp _ _ _ _ _
  · refine ⟨?_, rfl⟩
    show (if kind = 10 then _ else 0) + mapPot L ≤ _
    rw [if_neg hk]
    omega
theorem b1_eq (b : Bool) : b1 b = if b then nI 1 else nI 0 := rfl
theorem h_leaveTo {n : Nat} {g : Nat → Nat} {i : Nat → Int32} {a : Nat → Nat → Int32} {T : Nat} {G : GS} {N : LN} {F : List Fr} {L : List Lv} {k : Nat} {got : Option Tr} {x : Int32} (hn : 2000 ≤ n) (h : CI g i a T G N F L) (hl : lvOk F L (nMade N)) (h44 : i 44 = nI 0) (hk : k < L.length) (hx : oV (a 0) T got x) : TK n g T (m_Machine_leaveGiving n g i a (nI (L.length - 1 - k)) x) (aLeave (k + 1) G N F L got) := by
  obtain ⟨i', q1, q2, q3, q4, q5⟩ := h_leave (n := n) (k := k + 1) (by omega) h hl.1 hl.2.1 (by omega)
  have hl2 := lvOk_leave hl (k + 1)
  have e44 : i' 44 = nI 0 := by rw [q2 44 (by decide) (by decide) (by decide) (by decide) (by decide) (by decide)]; exact h44
  have hg : gV (a 0) T (.ok got) x := by cases got <;> exact hx
  refine TK_gv (i := i') (a := a) (x := x) (r := .ok got) ?_ (by omega) q3 hl2 e44 (q5 (by omega)) hg trivial
  unfold m_Machine_leaveGiving
  rw [show L.length - 1 - k = L.length - (k + 1) by omega, q1, ob_s]
theorem h_stop {n : Nat} {g : Nat → Nat} {i : Nat → Int32} {a : Nat → Nat → Int32} {T : Nat} {G : GS} {N : LN} {F : List Fr} {L : List Lv} (hn : 2000 ≤ n) (h : CI g i a T G N F L) (hl : lvOk F L (nMade N)) (h44 : i 44 = nI 0) : TK n g T (m_Machine_stopCall n g i a) (aStop G N F L) := by
  have ec := h_call0 (n := n) (by omega) h hl
  unfold m_Machine_stopCall aStop
  rw [show (0 : Int32) = nI 0 from rfl, ec, ob0_s]
  cases hk : lvAt isCall L with
  | none =>
    obtain ⟨i', q1, q2⟩ := h_finish (n := n) (st := 2) (e := 0) (by omega) h hl (by decide)
    refine TK_el (i := i') (a := a) ?_ q2
    rw [show ixR L.length none = -nI 1 from rfl, if_pos (by decide), show (2 : Int32) = nI 2 from rfl, q1, ob_s]
    rfl
  | some k =>
    have hk2 := lvAt_lt L k hk
    have hL := hl.2.1
    obtain ⟨i', a', x, i2, k1, k2, k3⟩ := h_leaveTo (n := n) (k := k) (got := none) (x := -nI 2147483648) hn h hl h44 hk2 rfl
    refine ⟨i', a', x, i2, ?_, k2, k3⟩
    rw [show ixR L.length (some k) = nI (L.length - 1 - k) from rfl, if_neg (nI_nlt (by omega) (by omega))]
    show ob (m_Machine_leaveGiving n g i a (nI (L.length - 1 - k)) (-nI 2147483648)) _ = _
    rw [k1, ob_s]
theorem h_outp {n : Nat} {g : Nat → Nat} {i : Nat → Int32} {a : Nat → Nat → Int32} {T : Nat} {G : GS} {N : LN} {F : List Fr} {L : List Lv} {v : Tr} {y : Int32} (hn : 2000 ≤ n) (h : CI g i a T G N F L) (hl : lvOk F L (nMade N)) (h44 : i 44 = nI 0) (hy : cV (a 0) T v none y) : TK n g T (m_Machine_leaveCall n g i a y) (aOutput v G N F L) := by
  have ec := h_call0 (n := n) (by omega) h hl
  unfold m_Machine_leaveCall aOutput
  rw [show (0 : Int32) = nI 0 from rfl, ec, ob0_s]
  cases hk : lvAt isCall L with
  | none =>
    refine TK_er (e := 12) (i := i) (a := a) ?_ (by omega) h hl h44 (by decide) (by decide)
    rw [show ixR L.length none = -nI 1 from rfl, if_neg (by decide)]
    rfl
  | some k =>
    have hk2 := lvAt_lt L k hk
    have hL := hl.2.1
    obtain ⟨i', a', x, i2, k1, k2, k3⟩ := h_leaveTo (n := n) (k := k) (got := some v) (x := y) hn h hl h44 hk2 hy
    refine ⟨i', a', x, i2, ?_, k2, k3⟩
    rw [show ixR L.length (some k) = nI (L.length - 1 - k) from rfl, if_pos (nI_le (by omega) (by omega)), k1, ob_s]
theorem h_throw {n : Nat} {g : Nat → Nat} {i : Nat → Int32} {a : Nat → Nat → Int32} {T : Nat} {G : GS} {N : LN} {F : List Fr} {L : List Lv} {w : List Nat} {y : Int32} (hn : 2000 ≤ n) (h : CI g i a T G N F L) (hl : lvOk F L (nMade N)) (h44 : i 44 = nI 0) (hy : cV (a 0) T (tW w) none y) : TK n g T (m_Machine_throwTo n g i a y) (aThrow w G N F L) := by
  have ec := h_catch (n := n) (by omega) h hl hy
  unfold m_Machine_throwTo aThrow
  rw [ec, ob0_s, show (0 : Int32) = nI 0 from rfl]
  cases hk : lvAt (isTag w) L with
  | none =>
    refine TK_er (e := 11) (i := i) (a := a) ?_ (by omega) h hl h44 (by decide) (by decide)
    rw [show ixR L.length none = -nI 1 from rfl, if_neg (by decide)]
    rfl
  | some k =>
    have hk2 := lvAt_lt L k hk
    have hL := hl.2.1
    obtain ⟨i', a', x, i2, k1, k2, k3⟩ := h_leaveTo (n := n) (k := k) (got := none) (x := -nI 2147483648) hn h hl h44 hk2 rfl
    refine ⟨i', a', x, i2, ?_, k2, k3⟩
    rw [show ixR L.length (some k) = nI (L.length - 1 - k) from rfl, if_pos (nI_le (by omega) (by omega))]
    show ob (m_Machine_leaveGiving n g i a (nI (L.length - 1 - k)) (-nI 2147483648)) _ = _
    rw [k1, ob_s]
theorem h_num {n : Nat} {x : Int32} {z : Int} (h : x = Int32.ofInt z) : m_Heap_number n x = some (hN z) := by
  unfold m_Heap_number
  simp only [i32_lit]
  rw [hN_sh h]
theorem cV_num {f : Nat → Int32} {T : Nat} {z : Int} (h1 : -1000000000 ≤ z) (h2 : z ≤ 1000000000) : gV f T (.ok (some (tN z))) (hN z) := (show cV f T (tN z) none (hN z) from cV_tN.mpr ⟨h1, h2, rfl⟩)
theorem h_map {n : Nat} {g : Nat → Nat} {i : Nat → Int32} {a : Nat → Nat → Int32} {T : Nat} {G : GS} {N : LN} {F : List Fr} {L : List Lv} {T0 : Nat} {ms : List Tr} {u : Tr} {x y : Int32} (hn : 40000 ≤ n) (h : CI g i a T G N F L) (hl : lvOk F L (nMade N)) (hNn : nOk N) (h44 : i 44 = nI 0) (h43 : i 43 = nI (lvVals L)) (h46 : i 46 = nI 0) (hx : cV (a 0) T (tL ms) none x) (hy : cV (a 0) T u none y) (hr : T + mapPot L ≤ T0 + 3 * nMade N) (hT0 : T0 ≤ 250000) : TG n g T T0 (m_Machine_map n g i a x y) (if 30000 ≤ nMade N then aFail 8 G N F L
    else if ms = [] then (G, nSetMade N (nMade N + 1), F, L, 1, some (tL []), none)
    else if 150 ≤ L.length then aFail 6 G N F L
    else (G, nSetMade N (nMade N + 1), F, lNew 10 u 1 (tL ms) 0 .nil :: L, 0, none, none)) := by
  obtain ⟨a1, a2, a3, a4, a5, a6, a7, a8, a9⟩ := h.1
  have h38 := h.2.2.1.2.2.2.1
  have hmd := hNn.2.2.2.1
  have hcnt := h_count (n := n) (i := i) a3 a5 hx
  have hc6 := cV_cnt hx (isL_tL ms)
  rw [tMem_tL] at hcnt hc6
  have err : ∀ e, 1 ≤ e → e ≤ 13 → ∀ o, o = some (i, a, g, ((0, 0) : Nat × Nat), -nI (2147483648 - e)) → TG n g T T0 o (aFail e G N F L) := by
    intro e h1 h2 o ho
    obtain ⟨i', q1, q2⟩ := h_take_err (n := n) (by omega) h hl h44 h1 h2
    obtain ⟨m1, m2⟩ := aFail_mp e G N F L
    exact ⟨i, a, g, (0, 0), _, i', T, ho, q1, q2, hGrow_refl a5, Nat.le_refl _, by rw [m2]; omega⟩
  unfold m_Machine_map
  rcases Nat.lt_or_ge (nMade N) 30000 with hm | hm
  · rw [if_neg (show ¬ 30000 ≤ nMade N by omega)]
    rcases Classical.em (ms = []) with he | he
    · rw [if_pos he]
      subst he
      obtain ⟨f, g', kk, n1, n2, n3, n4, n5⟩ := h_newList (n := n) (g := g) (i := i) (a := a) (T := T) (c := 0) (s := 1) a1 a3 ⟨by omega, a2.2⟩ (by omega) a4 a5 (by decide) (by decide)
      have hci : CI g (upd i 38 (nI (nMade N + 1))) a T G (nSetMade N (nMade N + 1)) F L := by
        obtain ⟨b1, b2, b3, b4, b5⟩ := h
        exact ⟨b1, b2, ⟨b3.1, b3.2.1, b3.2.2.1, rfl, b3.2.2.2.2⟩, b4, b5⟩
      have hgr := CI_grow (T' := T + 1 + 0) hci (by omega) n2 n4 n5.1 n5.2.1
      have hv : cV f (T + 1 + 0) (tL []) none (nI (4 * T + 1)) := cV_tL.mpr ⟨T, rfl, ⟨⟨by omega, (sA_congr T n2).trans a2.2⟩, by simp, by simp, ⟨by decide, by decide, by decide⟩, n3⟩, fun k hk => absurd hk (Nat.not_lt_zero k)⟩
      have hne := cV_no (by omega) hv
      have hne2 : nI (4 * T + 1) ≠ -nI 2147483642 := by
        intro e
        have := cV_ne (by omega) hv
        rw [e] at this
        exact absurd this (by decide)
      obtain ⟨i', q1, q2⟩ := h_take (n := n) (r := .ok (some (tL []))) (by omega) hgr (lvOk_mono hl (by show nMade N ≤ nMade N + 1; omega)) h44 h43 hv trivial
      have ec : upd (upd i 8 (nI (T + 1 + 0))) 38 (nI (nMade N + 1)) = upd (upd i 38 (nI (nMade N + 1))) 8 (nI (T + 1 + 0)) := upd_comm (by decide)
      refine ⟨upd (upd i 38 (nI (nMade N + 1))) 8 (nI (T + 1 + 0)), updA a 0 f, g', (kk.1 + 0, kk.2 + 0), nI (4 * T + 1), i', T + 1 + 0, ?_, q1, q2, by rw [Nat.add_zero, Nat.add_zero]; exact n5, by omega, ?_⟩
      · simp only [List.length_nil] at hcnt
        simp (disch := omega) only [ob_s, ob0_s, ob1_s, i32_lit, ile_p, ile_n, ilt_p, ilt_n, ieq_p, ieq_n, ck_n, cl_n, sub_n, nI_add, sh_w, sh_l, an3_w, an3_l, an1_w, an1_l, hN_1, hN_3w, hN_3l, if_true, if_false, h38, hcnt, m_Machine_map_b33, n1]
        refine (obG_s (k' := (0, 0)) ?_)
        unfold m_Machine_map_b60
        have e38 : upd i 8 (nI (T + 1 + 0)) 38 = nI (nMade N) := h38
        simp (disch := omega) only [ob_s, ob0_s, ob1_s, i32_lit, ile_p, ile_n, ilt_p, ilt_n, ieq_p, ieq_n, ck_n, cl_n, sub_n, nI_add, sh_w, sh_l, an3_w, an3_l, an1_w, an1_l, hN_1, hN_3w, hN_3l, if_true, if_false, hne, hne2, e38, ec]
      · show T + 1 + 0 + mapPot L ≤ T0 + 3 * (nMade N + 1)
        omega
    · rw [if_neg he]
      have hp : 1 ≤ ms.length := by
        rcases Nat.eq_zero_or_pos ms.length with h0 | h0
        · exact absurd (List.length_eq_zero_iff.mp h0) he
        · exact h0
      obtain ⟨o1, o2⟩ := h_open (n := n) (kind := 10) (mark := 0) (oth := tL ms) (tag := .nil) (mk := -nI 2147483648) (ot := x) (by omega) h hl h44 h43 h46 (by decide) hy (fun _ => hx) (fun q => by omega) (fun q => by omega)
      rcases Nat.lt_or_ge L.length 150 with hL | hL
      · rw [if_neg (show ¬ 150 ≤ L.length by omega)]
        obtain ⟨a', q1, q2⟩ := o1 hL
        obtain ⟨b1, b2, b3, b4, b5⟩ := q2
        have hcr : CR g (upd (upd i 40 (nI (L.length + 1))) 38 (nI (nMade N + 1))) a' T (G, nSetMade N (nMade N + 1), F, lNew 10 u 1 (tL ms) 0 .nil :: L, 0, none, none) := CR_0 ⟨b1, b2, ⟨b3.1, b3.2.1, b3.2.2.1, rfl, b3.2.2.2.2⟩, b4, b5⟩ h46 h44 (by rw [lvVals_new]; exact h43)
        refine ⟨upd (upd i 40 (nI (L.length + 1))) 38 (nI (nMade N + 1)), a', g, (0, 0), -nI 2147483584, upd (upd i 40 (nI (L.length + 1))) 38 (nI (nMade N + 1)), T, ?_, ?_, hcr, hGrow_refl a5, Nat.le_refl _, ?_⟩
        · have e38 : upd i 40 (nI (L.length + 1)) 38 = nI (nMade N) := h38
          simp (disch := omega) only [ob_s, ob0_s, ob1_s, i32_lit, ile_p, ile_n, ilt_p, ilt_n, ieq_p, ieq_n, ck_n, cl_n, sub_n, nI_add, sh_w, sh_l, an3_w, an3_l, an1_w, an1_l, hN_1, hN_3w, hN_3l, if_true, if_false, h38, hcnt, m_Machine_map_b33, q1, m_Machine_map_b60, e38]
          rw [if_neg (by decide), if_neg (by decide)]
        · unfold m_Machine_take
          simp only [i32_lit]
          rw [if_pos trivial]
        · show T + ((if (10 : Nat) = 10 then 1 + 0 else 0) + mapPot L) ≤ T0 + 3 * (nMade N + 1)
          rw [if_pos rfl]
          omega
      · rw [if_pos hL]
        refine err 6 (by decide) (by decide) _ ?_
        simp (disch := omega) only [ob_s, ob0_s, ob1_s, i32_lit, ile_p, ile_n, ilt_p, ilt_n, ieq_p, ieq_n, ck_n, cl_n, sub_n, nI_add, sh_w, sh_l, an3_w, an3_l, an1_w, an1_l, hN_1, hN_3w, hN_3l, if_true, if_false, h38, hcnt, m_Machine_map_b33, o2 hL, m_Machine_map_b60]
        rw [if_neg (by decide)]
  · rw [if_pos hm]
    refine err 8 (by decide) (by decide) _ ?_
    simp (disch := omega) only [ob_s, ob0_s, ob1_s, i32_lit, ile_p, ile_n, ilt_p, ilt_n, ieq_p, ieq_n, ck_n, cl_n, sub_n, nI_add, sh_w, sh_l, an3_w, an3_l, an1_w, an1_l, hN_1, hN_3w, hN_3l, if_true, if_false, h38]
theorem h_runningWord {n : Nat} {g : Nat → Nat} {i : Nat → Int32} {a : Nat → Nat → Int32} {T : Nat} {G : GS} {N : LN} {F : List Fr} {L : List Lv} {vs : List Tr} {T0 code : Nat} {v u z : Tr} (hn : 40000 ≤ n) (h : INP g i a T G N F L vs) (h1 : 60 ≤ code) (h2 : code ≤ 74) (hv : vs.getD 0 .nil = v) (hu : vs.getD 1 .nil = u) (hz : vs.getD 2 .nil = z) (hl : vs.length = (aKind code).length) (hf : aFits (aKind code) vs = true) (hr : T + mapPot L ≤ T0 + 3 * nMade N) (hT0 : T0 ≤ 250000) : TG n g T T0 (m_Machine_runningWord n g i a (nI code)) (aRunning code v u z G N F L) := by
  obtain ⟨x0, q1, _⟩ := h_input (n := n) (k := 0) h (by decide)
  obtain ⟨y0, q3, _⟩ := h_input (n := n) (k := 1) h (by decide)
  have hI := h
  obtain ⟨hc, hl9, hg, hNn, h44, h43, h46, hroom, hvs⟩ := h
  obtain ⟨a1, a2, a3, a4, a5, a6, a7, a8, a9⟩ := hc.1
  have in0 : ∀ c, (aKind code)[0]? = some c → cV (a 0) T v none x0 ∧ aFit1 c v = true ∧ vs[0]? = some v := by
    intro c hc9
    obtain ⟨x, p1, p2, p3, p4⟩ := h_in (n := n) hI hl hf hv hc9 (by decide)
    rw [q1] at p1
    cases p1
    exact ⟨p2, p3, p4⟩
  have in1 : ∀ c, (aKind code)[1]? = some c → cV (a 0) T u none y0 ∧ aFit1 c u = true := by
    intro c hc9
    obtain ⟨x, p1, p2, p3, p4⟩ := h_in (n := n) hI hl hf hu hc9 (by decide)
    rw [q3] at p1
    cases p1
    exact ⟨p2, p3⟩
  have pass : ∀ {o : Option ((Nat → Int32) × (Nat → Nat → Int32) × Int32)} {c : Cfg}, TK n g T o c → cMp c ≤ mapPot L ∧ cMd c = nMade N → TG n g T T0 (ob o (fun i a r => some (i, a, g, (0, 0), r))) c := fun ht hm => TG_of ht a5 hr hm
  have val : ∀ (r : Rs) (y : Int32) (o : Option ((Nat → Int32) × (Nat → Nat → Int32) × (Nat → Nat) × (Nat × Nat) × Int32)), o = some (i, a, g, (0, 0), y) → gV (a 0) T r y → rsOk r → TG n g T T0 o (aTake G N F L r) := by
    intro r y o ho hy hr9
    have ht := TK_gv (n := n) (o := some (i, a, y)) rfl (by omega) hc hl9 h44 h43 hy hr9
    have := pass ht (aTake_mp _ _ _ _ _)
    rw [ob_s, ← ho] at this
    exact this
  unfold m_Machine_runningWord
  rw [show (0 : Int32) = nI 0 from rfl, show (1 : Int32) = nI 1 from rfl, q1, ob0_s, q3, ob0_s]
  rcases (by omega : code = 60 ∨ code = 61 ∨ code = 62 ∨ code = 63 ∨ code = 64 ∨ code = 65 ∨ code = 66 ∨ code = 67 ∨ code = 68 ∨ code = 69 ∨ code = 70 ∨ code = 71 ∨ code = 72 ∨ code = 73 ∨ code = 74) with rfl | rfl | rfl | rfl | rfl | rfl | rfl | rfl | rfl | rfl | rfl | rfl | rfl | rfl | rfl
  · obtain ⟨p1, p2, p3⟩ := in0 108 rfl
    rw [if_pos (show nI 60 = (60 : Int32) from rfl)]
    show TG n g T T0 _ (aRunning 60 v u z G N F L)
    unfold aRunning
    simp only [Nat.reduceEqDiff, if_true, if_false]
    exact pass (h_openT (n := n) (kind := 6) (mark := 0) (oth := .nil) (tag := .nil) (mk := -nI 2147483648) (ot := -nI 2147483648) (by omega) hc hl9 h44 h43 h46 (by decide) p1 (fun q => by omega) (fun q => by omega) (fun q => by omega)) (aOpen_mp _ _ _ _ _ _ _ _ _ _ (by decide))
  · obtain ⟨p1, p2, p3⟩ := in0 98 rfl
    obtain ⟨r1, r2⟩ := in1 108 rfl
    have et := h_isTrue (n := n) (by omega) hI (by decide) p3 (fit_b p2)
    rw [if_neg (show ¬ nI 61 = (60 : Int32) by decide), if_pos (show nI 61 = (61 : Int32) from rfl), et, ob0_s]
    show TG n g T T0 _ (aRunning 61 v u z G N F L)
    unfold aRunning
    simp only [Nat.reduceEqDiff, if_true, if_false]
    rcases Classical.em (tLet v = wTrue) with ht | ht
    · rw [if_pos ht, ht, show (wTrue == wTrue) = true from rfl, b1_t, if_neg (by decide)]
      exact pass (h_openT (n := n) (kind := 2) (mark := 0) (oth := .nil) (tag := .nil) (mk := -nI 2147483648) (ot := -nI 2147483648) (by omega) hc hl9 h44 h43 h46 (by decide) r1 (fun q => by omega) (fun q => by omega) (fun q => by omega)) (aOpen_mp _ _ _ _ _ _ _ _ _ _ (by decide))
    · rw [if_neg ht, show (tLet v == wTrue) = false from beq_eq_false_iff_ne.mpr ht, b1_f, if_pos rfl]
      exact val (.ok none) _ _ rfl rfl trivial
  · obtain ⟨p1, p2, p3⟩ := in0 98 rfl
    obtain ⟨r1, r2⟩ := in1 108 rfl
    obtain ⟨z0, s1, s2, s3, s4⟩ := h_in (n := n) (k := 2) (c := 108) hI hl hf hz rfl (by decide)
    have et := h_isTrue (n := n) (by omega) hI (by decide) p3 (fit_b p2)
    rw [if_neg (show ¬ nI 62 = (60 : Int32) by decide), if_neg (show ¬ nI 62 = (61 : Int32) by decide), if_pos (show nI 62 = (62 : Int32) from rfl), et, ob0_s]
    show TG n g T T0 _ (aRunning 62 v u z G N F L)
    unfold aRunning
    simp only [Nat.reduceEqDiff, if_true, if_false]
    rcases Classical.em (tLet v = wTrue) with ht | ht
    · rw [if_pos ht, ht, show (wTrue == wTrue) = true from rfl, b1_t, if_neg (by decide)]
      exact pass (h_openT (n := n) (kind := 6) (mark := 0) (oth := .nil) (tag := .nil) (mk := -nI 2147483648) (ot := -nI 2147483648) (by omega) hc hl9 h44 h43 h46 (by decide) r1 (fun q => by omega) (fun q => by omega) (fun q => by omega)) (aOpen_mp _ _ _ _ _ _ _ _ _ _ (by decide))
    · rw [if_neg ht, show (tLet v == wTrue) = false from beq_eq_false_iff_ne.mpr ht, b1_f, if_pos rfl, show (2 : Int32) = nI 2 from rfl, s1, ob0_s]
      exact pass (h_openT (n := n) (kind := 6) (mark := 0) (oth := .nil) (tag := .nil) (mk := -nI 2147483648) (ot := -nI 2147483648) (by omega) hc hl9 h44 h43 h46 (by decide) s2 (fun q => by omega) (fun q => by omega) (fun q => by omega)) (aOpen_mp _ _ _ _ _ _ _ _ _ _ (by decide))
  · obtain ⟨p1, p2, p3⟩ := in0 110 rfl
    obtain ⟨r1, r2⟩ := in1 108 rfl
    obtain ⟨w1, w2, w3, w4⟩ := isN_num p1 p2
    rw [if_neg (show ¬ nI 63 = (60 : Int32) by decide), if_neg (show ¬ nI 63 = (61 : Int32) by decide), if_neg (show ¬ nI 63 = (62 : Int32) by decide), if_pos (show nI 63 = (63 : Int32) from rfl), w4, show (31 : Int32) = nI 31 from rfl, hN_32 w2 w3]
    show TG n g T T0 _ (aRunning 63 v u z G N F L)
    unfold aRunning
    simp only [Nat.reduceEqDiff, if_true, if_false]
    unfold m_Machine_repeat
    rcases Classical.em (tNum v ≤ 0) with hz9 | hz9
    · rw [if_pos hz9, if_neg (by rw [Int32.lt_iff_toInt_lt, i32_int (by omega) (by omega)]; exact Int.not_lt.mpr hz9), ob_s]
      exact val (.ok none) _ _ rfl rfl trivial
    · rw [if_neg hz9, if_pos (by rw [Int32.lt_iff_toInt_lt, i32_int (by omega) (by omega)]; exact Int.not_le.mp hz9)]
      obtain ⟨o1, o2⟩ := h_open (n := n) (kind := 3) (mark := 0) (oth := .nil) (tag := .nil) (mk := -nI 2147483648) (ot := -nI 2147483648) (by omega) hc hl9 h44 h43 h46 (by decide) r1 (fun q => by omega) (fun q => by omega) (fun q => by omega)
      have hm := aOpen_mp G N F L 3 (tNum v).toNat 0 u .nil .nil (by decide)
      refine pass ?_ hm
      unfold aOpen
      rcases Nat.lt_or_ge L.length 150 with hL | hL
      · rw [if_neg (by omega)]
        obtain ⟨a', k1, k2⟩ := o1 hL
        have k1 : m_Machine_open n g i a 3 y0 (-2147483648) (-2147483648) = some (upd i 40 (nI (L.length + 1)), a', -nI 2147483584) := k1
        have ez : Int32.ofInt (tNum v) = nI (tNum v).toNat := by
          rw [nI_ofInt]; congr 1; omega
        obtain ⟨b1, b2, b3, b4, b5, b6, b7, b8⟩ := k2
        refine TK_el (i := upd i 40 (nI (L.length + 1))) (a := sv a' 41 L.length (nI (tNum v).toNat)) ?_ (CR_0 ⟨b1, b2, b3, b4, b5, b6, b7, lev_lim b8⟩ h46 h44 (by rw [lvVals_new]; exact h43))
        rw [k1, ob_s, ez]
        have e40 : upd i 40 (nI (L.length + 1)) 40 = nI (L.length + 1) := rfl
        simp (disch := omega) only [ob_s, ob0_s, ob1_s, i32_lit, ile_p, ile_n, ilt_p, ilt_n, ieq_p, ieq_n, ck_n, cl_n, sub_n, nI_add, sh_w, sh_l, an3_w, an3_l, an1_w, an1_l, hN_1, hN_3w, hN_3l, if_true, if_false, e40, show L.length + 1 - 1 = L.length by omega]
      · rw [if_pos hL]
        have k1 : m_Machine_open n g i a 3 y0 (-2147483648) (-2147483648) = some (i, a, -nI 2147483642) := o2 hL
        refine TK_er (e := 6) (i := i) (a := a) ?_ (by omega) hc hl9 h44 (by decide) (by decide)
        rw [k1, ob_s, if_neg (by decide)]
  · rw [if_neg (show ¬ nI 64 = (60 : Int32) by decide), if_neg (show ¬ nI 64 = (61 : Int32) by decide), if_neg (show ¬ nI 64 = (62 : Int32) by decide), if_neg (show ¬ nI 64 = (63 : Int32) by decide), if_pos (show nI 64 = (64 : Int32) from rfl)]
    show TG n g T T0 _ (aRunning 64 v u z G N F L)
    unfold aRunning
    simp only [Nat.reduceEqDiff, if_true, if_false]
    unfold m_Machine_repcount
    rcases h_newest (n := n) (p := 3) (q := 3) (by decide) (by decide) (by omega) hc hl9 with ⟨c1, c2⟩ | ⟨l, d, c1, c2, c3, c4, c5, c6, c7⟩
    · rw [c1]
      have c2 : m_Line_newest n g i a 3 3 = some (-nI 1) := c2
      rw [c2, ob0_s, if_neg (by decide), show (0 : Int32) = nI 0 from rfl, h_num (nI_ofInt 0), ob0_s, ob0_s]
      exact val (.ok (some (tN 0))) _ _ rfl (cV_num (by decide) (by decide)) trivial
    · rw [c1]
      have c5 : m_Line_newest n g i a 3 3 = some (nI d) := c5
      have hL := hl9.2.1
      have htu := (hl9.1 l c2).2.2.2.2.1
      rw [c5, ob0_s, if_pos (show (0 : Int32) ≤ nI d from nI_pos' (by omega)), ck_n (by omega), cl_n (by omega), c6, h_num (nI_ofInt (lTurns l)), ob0_s, ob0_s]
      exact val (.ok (some (tN (lTurns l)))) _ _ rfl (cV_num (by omega) (by omega)) trivial
  · obtain ⟨p1, p2, p3⟩ := in0 108 rfl
    obtain ⟨r1, r2⟩ := in1 108 rfl
    rw [if_neg (show ¬ nI 65 = (60 : Int32) by decide), if_neg (show ¬ nI 65 = (61 : Int32) by decide), if_neg (show ¬ nI 65 = (62 : Int32) by decide), if_neg (show ¬ nI 65 = (63 : Int32) by decide), if_neg (show ¬ nI 65 = (64 : Int32) by decide), if_pos (show nI 65 = (65 : Int32) from rfl)]
    show TG n g T T0 _ (aRunning 65 v u z G N F L)
    unfold aRunning
    simp only [Nat.reduceEqDiff, if_true, if_false]
    exact pass (h_openT (n := n) (kind := 9) (mark := 0) (oth := u) (tag := .nil) (mk := -nI 2147483648) (ot := y0) (by omega) hc hl9 h44 h43 h46 (by decide) p1 (fun q => r1) (fun q => by omega) (fun q => by omega)) (aOpen_mp _ _ _ _ _ _ _ _ _ _ (by decide))
  · obtain ⟨p1, p2, p3⟩ := in0 108 rfl
    obtain ⟨r1, r2⟩ := in1 108 rfl
    have hcnt := h_count (n := n) (i := i) a3 a5 p1
    have hc6 := cV_cnt p1 p2
    rw [if_neg (show ¬ nI 66 = (60 : Int32) by decide), if_neg (show ¬ nI 66 = (61 : Int32) by decide), if_neg (show ¬ nI 66 = (62 : Int32) by decide), if_neg (show ¬ nI 66 = (63 : Int32) by decide), if_neg (show ¬ nI 66 = (64 : Int32) by decide), if_neg (show ¬ nI 66 = (65 : Int32) by decide), if_pos (show nI 66 = (66 : Int32) from rfl), hcnt, ob0_s]
    show TG n g T T0 _ (aRunning 66 v u z G N F L)
    unfold aRunning
    simp only [Nat.reduceEqDiff, if_true, if_false]
    rcases Classical.em (tMem v = []) with he | he
    · rw [if_pos he, he, if_pos (show nI ([] : List Tr).length = nI 0 from rfl)]
      exact val (.ok none) _ _ rfl rfl trivial
    · rw [if_neg he, if_neg (show ¬ nI (tMem v).length = nI 0 from fun e => he (List.length_eq_zero_iff.mp ((nI_eq (by omega) (by omega)).mp e)))]
      exact pass (h_openT (n := n) (kind := 5) (mark := 0) (oth := v) (tag := .nil) (mk := -nI 2147483648) (ot := x0) (by omega) hc hl9 h44 h43 h46 (by decide) r1 (fun q => p1) (fun q => by omega) (fun q => by omega)) (aOpen_mp _ _ _ _ _ _ _ _ _ _ (by decide))
  · rw [if_neg (show ¬ nI 67 = (60 : Int32) by decide), if_neg (show ¬ nI 67 = (61 : Int32) by decide), if_neg (show ¬ nI 67 = (62 : Int32) by decide), if_neg (show ¬ nI 67 = (63 : Int32) by decide), if_neg (show ¬ nI 67 = (64 : Int32) by decide), if_neg (show ¬ nI 67 = (65 : Int32) by decide), if_neg (show ¬ nI 67 = (66 : Int32) by decide), if_pos (show nI 67 = (67 : Int32) from rfl)]
    show TG n g T T0 _ (aRunning 67 v u z G N F L)
    unfold aRunning
    simp only [Nat.reduceEqDiff, if_true, if_false]
    unfold m_Machine_current
    rcases h_newest (n := n) (p := 5) (q := 10) (by decide) (by decide) (by omega) hc hl9 with ⟨c1, c2⟩ | ⟨l, d, c1, c2, c3, c4, c5, c6, c7⟩
    · rw [c1]
      have c2 : m_Line_newest n g i a 5 10 = some (-nI 1) := c2
      rw [c2, ob0_s, if_neg (by decide), ob0_s]
      exact val (.error 1) _ _ rfl rfl ⟨by decide, by decide⟩
    · rw [c1]
      have c5 : m_Line_newest n g i a 5 10 = some (nI d) := c5
      have hL := hl9.2.1
      have hlo := hl9.1 l c2
      have htu := hlo.2.2.2.1
      have ht2 := hlo.2.2.2.2.2.2.2.1 (by omega)
      have hoth := c7 (by omega)
      have hol := hlo.2.2.2.2.2.2.2.2.1 (by omega)
      have hc6 := cV_cnt hoth hol
      rw [isL_eq hoth hol] at hoth
      obtain ⟨y, m1, m2⟩ := h_member (n := n) (i := i) a3 a5 hoth (k := lTurns l - 1) (by omega)
      rw [c5, ob0_s, if_pos (show (0 : Int32) ≤ nI d from nI_pos' (by omega)), ck_n (by omega), ck_n (by omega), cl_n (by omega), c6, show (1 : Int32) = nI 1 from rfl, sub_n (by omega), m1, ob0_s, ob0_s]
      show TG n g T T0 _ (match (tMem (lOth l))[lTurns l - 1]? with
        | none => aFail 1 G N F L
        | some x => (G, N, F, L, 1, some x, none))
      rw [List.getElem?_eq_getElem (by omega : lTurns l - 1 < (tMem (lOth l)).length)]
      exact val (.ok (some (tMem (lOth l))[lTurns l - 1])) _ _ rfl m2 trivial
  · obtain ⟨p1, p2, p3⟩ := in0 108 rfl
    obtain ⟨r1, r2⟩ := in1 108 rfl
    have ev := isL_eq p1 p2
    rw [ev] at p1
    rw [if_neg (show ¬ nI 68 = (60 : Int32) by decide), if_neg (show ¬ nI 68 = (61 : Int32) by decide), if_neg (show ¬ nI 68 = (62 : Int32) by decide), if_neg (show ¬ nI 68 = (63 : Int32) by decide), if_neg (show ¬ nI 68 = (64 : Int32) by decide), if_neg (show ¬ nI 68 = (65 : Int32) by decide), if_neg (show ¬ nI 68 = (66 : Int32) by decide), if_neg (show ¬ nI 68 = (67 : Int32) by decide), if_pos (show nI 68 = (68 : Int32) from rfl)]
    show TG n g T T0 _ (aRunning 68 v u z G N F L)
    unfold aRunning
    simp only [Nat.reduceEqDiff, if_true, if_false]
    obtain ⟨i', a', g', kk, x, i2, T', m1, m2, m3, m4, m5⟩ := h_map (n := n) (T0 := T0) hn hc hl9 hNn h44 h43 h46 p1 r1 hr hT0
    rw [← ev] at m3 m5
    refine ⟨i', a', g', (kk.1 + 0, kk.2 + 0), x, i2, T', ?_, m2, m3, by rw [Nat.add_zero, Nat.add_zero]; exact m4, m5⟩
    rw [m1]
    refine obG_s (k' := (0, 0)) ?_
    rfl
  · obtain ⟨p1, p2, p3⟩ := in0 110 rfl
    obtain ⟨r1, r2⟩ := in1 108 rfl
    obtain ⟨w1, w2, w3, w4⟩ := isN_num p1 p2
    rw [if_neg (show ¬ nI 69 = (60 : Int32) by decide), if_neg (show ¬ nI 69 = (61 : Int32) by decide), if_neg (show ¬ nI 69 = (62 : Int32) by decide), if_neg (show ¬ nI 69 = (63 : Int32) by decide), if_neg (show ¬ nI 69 = (64 : Int32) by decide), if_neg (show ¬ nI 69 = (65 : Int32) by decide), if_neg (show ¬ nI 69 = (66 : Int32) by decide), if_neg (show ¬ nI 69 = (67 : Int32) by decide), if_neg (show ¬ nI 69 = (68 : Int32) by decide), if_pos (show nI 69 = (69 : Int32) from rfl), w4, show (31 : Int32) = nI 31 from rfl, hN_32 w2 w3]
    show TG n g T T0 _ (aRunning 69 v u z G N F L)
    unfold aRunning
    simp only [Nat.reduceEqDiff, if_true, if_false]
    have hm : cMp (if tNum v < 0 ∨ 7 < tNum v then aFail 3 G N F L
        else if 150 ≤ L.length then aFail 6 G N F L
        else (gSetTold G (tNum v).toNat, N, F, lNew 7 u 1 .nil (gTold G) .nil :: L, 0, none, none)) ≤ mapPot L ∧ cMd (if tNum v < 0 ∨ 7 < tNum v then aFail 3 G N F L
        else if 150 ≤ L.length then aFail 6 G N F L
        else (gSetTold G (tNum v).toNat, N, F, lNew 7 u 1 .nil (gTold G) .nil :: L, 0, none, none)) = nMade N := by
      repeat' split
      · exact aFail_mp _ _ _ _ _
      · exact aFail_mp _ _ _ _ _
      · refine ⟨?_, rfl⟩
        show (if (7 : Nat) = 10 then _ else 0) + mapPot L ≤ _
        rw [if_neg (by decide)]
        omega
    refine pass ?_ hm
    unfold m_Machine_ask
    have h17 := hc.2.1.2.2.2.2.1
    rcases Classical.em (tNum v < 0 ∨ 7 < tNum v) with hb | hb
    · rw [if_pos hb]
      refine TK_er (e := 3) (i := i) (a := a) ?_ (by omega) hc hl9 h44 (by decide) (by decide)
      have ex : m_Turtles_exists n (Int32.ofInt (tNum v)) = some (nI 0) := by
        unfold m_Turtles_exists
        rcases hb with hb | hb
        · rw [if_pos (by rw [Int32.lt_iff_toInt_lt, i32_int (by omega) (by omega)]; exact hb)]
          rfl
        · rw [if_neg (by rw [Int32.lt_iff_toInt_lt, i32_int (by omega) (by omega)]; show ¬ tNum v < 0; omega), if_pos (by rw [Int32.le_iff_toInt_le, i32_int (by omega) (by omega)]; exact (by omega : (8 : Int) ≤ tNum v))]
          rfl
      rw [ex, ob0_s, if_pos (show nI 0 = (0 : Int32) from rfl)]
      rfl
    · rw [if_neg hb]
      have ex : m_Turtles_exists n (Int32.ofInt (tNum v)) = some (nI 1) := by
        unfold m_Turtles_exists
        rw [if_neg (by rw [Int32.lt_iff_toInt_lt, i32_int (by omega) (by omega)]; show ¬ tNum v < 0; omega), if_neg (by rw [Int32.le_iff_toInt_le, i32_int (by omega) (by omega)]; exact (by omega : ¬ (8 : Int) ≤ tNum v))]
        rfl
      obtain ⟨o1, o2⟩ := h_open (n := n) (kind := 7) (mark := gTold G) (oth := .nil) (tag := .nil) (mk := i 17) (ot := -nI 2147483648) (by omega) hc hl9 h44 h43 h46 (by decide) r1 (fun q => by omega) (fun q => h17) (fun q => by omega)
      rw [ex, ob0_s, if_neg (by decide)]
      rcases Nat.lt_or_ge L.length 150 with hL | hL
      · rw [if_neg (by omega)]
        obtain ⟨a', k1, k2⟩ := o1 hL
        have k1 : m_Machine_open n g i a 7 y0 (i 17) (-2147483648) = some (upd i 40 (nI (L.length + 1)), a', -nI 2147483584) := k1
        have ez : Int32.ofInt (tNum v) = nI (tNum v).toNat := by
          rw [nI_ofInt]; congr 1; omega
        obtain ⟨b1, b2, b3, b4, b5⟩ := k2
        refine TK_el (i := upd (upd i 40 (nI (L.length + 1))) 17 (nI (tNum v).toNat)) (a := a') ?_ (CR_0 ⟨b1, ⟨b2.1, b2.2.1, b2.2.2.1, b2.2.2.2.1, rfl, b2.2.2.2.2.2⟩, b3, b4, b5⟩ h46 h44 (by rw [lvVals_new]; exact h43))
        rw [k1, ob_s, if_pos (show -nI 2147483584 = (-2147483584 : Int32) from rfl)]
        unfold m_Turtles_mean
        rw [ex, ob0_s, if_neg (by decide), ob1_s, ob_s, ez]
      · rw [if_pos hL]
        have k1 : m_Machine_open n g i a 7 y0 (i 17) (-2147483648) = some (i, a, -nI 2147483642) := o2 hL
        refine TK_er (e := 6) (i := i) (a := a) ?_ (by omega) hc hl9 h44 (by decide) (by decide)
        rw [k1, ob_s, if_neg (by decide)]
  · rw [if_neg (show ¬ nI 70 = (60 : Int32) by decide), if_neg (show ¬ nI 70 = (61 : Int32) by decide), if_neg (show ¬ nI 70 = (62 : Int32) by decide), if_neg (show ¬ nI 70 = (63 : Int32) by decide), if_neg (show ¬ nI 70 = (64 : Int32) by decide), if_neg (show ¬ nI 70 = (65 : Int32) by decide), if_neg (show ¬ nI 70 = (66 : Int32) by decide), if_neg (show ¬ nI 70 = (67 : Int32) by decide), if_neg (show ¬ nI 70 = (68 : Int32) by decide), if_neg (show ¬ nI 70 = (69 : Int32) by decide), if_pos (show nI 70 = (70 : Int32) from rfl)]
    show TG n g T T0 _ (aRunning 70 v u z G N F L)
    unfold aRunning
    simp only [Nat.reduceEqDiff, if_true, if_false]
    refine pass (h_stop (by omega) hc hl9 h44) ?_
    unfold aStop
    split
    · exact aFinish_mp _ _ _ _ _
    · exact aLeave_mp _ _ _ _ _ _
  · obtain ⟨p1, p2, p3⟩ := in0 118 rfl
    rw [if_neg (show ¬ nI 71 = (60 : Int32) by decide), if_neg (show ¬ nI 71 = (61 : Int32) by decide), if_neg (show ¬ nI 71 = (62 : Int32) by decide), if_neg (show ¬ nI 71 = (63 : Int32) by decide), if_neg (show ¬ nI 71 = (64 : Int32) by decide), if_neg (show ¬ nI 71 = (65 : Int32) by decide), if_neg (show ¬ nI 71 = (66 : Int32) by decide), if_neg (show ¬ nI 71 = (67 : Int32) by decide), if_neg (show ¬ nI 71 = (68 : Int32) by decide), if_neg (show ¬ nI 71 = (69 : Int32) by decide), if_neg (show ¬ nI 71 = (70 : Int32) by decide), if_pos (show nI 71 = (71 : Int32) from rfl)]
    show TG n g T T0 _ (aRunning 71 v u z G N F L)
    unfold aRunning
    simp only [Nat.reduceEqDiff, if_true, if_false]
    refine pass (h_outp (by omega) hc hl9 h44 p1) ?_
    unfold aOutput
    split
    · exact aFail_mp _ _ _ _ _
    · exact aLeave_mp _ _ _ _ _ _
  · obtain ⟨p1, p2, p3⟩ := in0 119 rfl
    obtain ⟨r1, r2⟩ := in1 108 rfl
    rw [if_neg (show ¬ nI 72 = (60 : Int32) by decide), if_neg (show ¬ nI 72 = (61 : Int32) by decide), if_neg (show ¬ nI 72 = (62 : Int32) by decide), if_neg (show ¬ nI 72 = (63 : Int32) by decide), if_neg (show ¬ nI 72 = (64 : Int32) by decide), if_neg (show ¬ nI 72 = (65 : Int32) by decide), if_neg (show ¬ nI 72 = (66 : Int32) by decide), if_neg (show ¬ nI 72 = (67 : Int32) by decide), if_neg (show ¬ nI 72 = (68 : Int32) by decide), if_neg (show ¬ nI 72 = (69 : Int32) by decide), if_neg (show ¬ nI 72 = (70 : Int32) by decide), if_neg (show ¬ nI 72 = (71 : Int32) by decide), if_pos (show nI 72 = (72 : Int32) from rfl)]
    show TG n g T T0 _ (aRunning 72 v u z G N F L)
    unfold aRunning
    simp only [Nat.reduceEqDiff, if_true, if_false]
    exact pass (h_openT (n := n) (kind := 8) (mark := 0) (oth := .nil) (tag := v) (mk := x0) (ot := -nI 2147483648) (by omega) hc hl9 h44 h43 h46 (by decide) r1 (fun q => by omega) (fun q => by omega) (fun q => p1)) (aOpen_mp _ _ _ _ _ _ _ _ _ _ (by decide))
  · obtain ⟨p1, p2, p3⟩ := in0 119 rfl
    rw [isW_eq p1 p2] at p1
    rw [if_neg (show ¬ nI 73 = (60 : Int32) by decide), if_neg (show ¬ nI 73 = (61 : Int32) by decide), if_neg (show ¬ nI 73 = (62 : Int32) by decide), if_neg (show ¬ nI 73 = (63 : Int32) by decide), if_neg (show ¬ nI 73 = (64 : Int32) by decide), if_neg (show ¬ nI 73 = (65 : Int32) by decide), if_neg (show ¬ nI 73 = (66 : Int32) by decide), if_neg (show ¬ nI 73 = (67 : Int32) by decide), if_neg (show ¬ nI 73 = (68 : Int32) by decide), if_neg (show ¬ nI 73 = (69 : Int32) by decide), if_neg (show ¬ nI 73 = (70 : Int32) by decide), if_neg (show ¬ nI 73 = (71 : Int32) by decide), if_neg (show ¬ nI 73 = (72 : Int32) by decide), if_pos (show nI 73 = (73 : Int32) from rfl)]
    show TG n g T T0 _ (aRunning 73 v u z G N F L)
    unfold aRunning
    simp only [Nat.reduceEqDiff, if_true, if_false]
    refine pass (h_throw (by omega) hc hl9 h44 p1) ?_
    unfold aThrow
    split
    · exact aFail_mp _ _ _ _ _
    · exact aLeave_mp _ _ _ _ _ _
  · rw [if_neg (show ¬ nI 74 = (60 : Int32) by decide), if_neg (show ¬ nI 74 = (61 : Int32) by decide), if_neg (show ¬ nI 74 = (62 : Int32) by decide), if_neg (show ¬ nI 74 = (63 : Int32) by decide), if_neg (show ¬ nI 74 = (64 : Int32) by decide), if_neg (show ¬ nI 74 = (65 : Int32) by decide), if_neg (show ¬ nI 74 = (66 : Int32) by decide), if_neg (show ¬ nI 74 = (67 : Int32) by decide), if_neg (show ¬ nI 74 = (68 : Int32) by decide), if_neg (show ¬ nI 74 = (69 : Int32) by decide), if_neg (show ¬ nI 74 = (70 : Int32) by decide), if_neg (show ¬ nI 74 = (71 : Int32) by decide), if_neg (show ¬ nI 74 = (72 : Int32) by decide), if_neg (show ¬ nI 74 = (73 : Int32) by decide), if_pos (show nI 74 = (74 : Int32) from rfl)]
    show TG n g T T0 _ (aRunning 74 v u z G N F L)
    unfold aRunning
    simp only [Nat.reduceEqDiff, if_true, if_false]
    have h39 := hc.2.2.1.2.2.2.2
    have hcg := hNn.2.2.2.2
    have hci : CI g (upd i 39 (nI 0)) a T G (nSetCaught N 0) F L := by
      obtain ⟨b1, b2, b3, b4, b5⟩ := hc
      exact ⟨b1, b2, ⟨b3.1, b3.2.1, b3.2.2.1, b3.2.2.2.1, rfl⟩, b4, b5⟩
    refine pass ?_ ⟨Nat.le_refl _, rfl⟩
    refine TK_gv (i := upd i 39 (nI 0)) (a := a) (x := hN (nCaught N)) (r := .ok (some (tN (nCaught N)))) ?_ (by omega) hci hl9 h44 h43 (cV_num (by omega) (by omega)) trivial
    unfold m_Machine_tellCaught
    rw [ob1_s, ob1_s, h39, h_num (nI_ofInt (nCaught N)), ob0_s]
    rfl
