/-! names and procedures, changed -/
theorem frLocs_map : ∀ {F F2 : List Fr}, F2.map (fun f => (f.1, f.2.length)) = F.map (fun f => (f.1, f.2.length)) → frLocs F2 = frLocs F := by
  intro F
  induction F with
  | nil => intro F2 h; cases F2 with
    | nil => rfl
    | cons f F2 => cases h
  | cons f F ih =>
    intro F2 h
    cases F2 with
    | nil => cases h
    | cons f2 F2 =>
      rw [List.map_cons, List.map_cons] at h
      have h1 := (List.cons.inj h).1
      have h2 := (List.cons.inj h).2
      rw [frLocs, frLocs, ih h2]
      have : f2.2.length = f.2.length := (Prod.mk.inj h1).2
      omega
theorem lvR_fr {f : Nat → Int32} {T : Nat} {k1 k2 k3 k4 k5 k6 k7 k8 k9 k10 w1 w2 w3 w4 w5 w6 w7 w8 : Nat → Int32} : ∀ (L : List Lv) (F F2 : List Fr), F2.map (fun f => (f.1, f.2.length)) = F.map (fun f => (f.1, f.2.length)) → lvR f T k1 k2 k3 k4 k5 k6 k7 k8 k9 k10 w1 w2 w3 w4 w5 w6 w7 w8 L F → lvR f T k1 k2 k3 k4 k5 k6 k7 k8 k9 k10 w1 w2 w3 w4 w5 w6 w7 w8 L F2 := by
  intro L
  induction L with
  | nil =>
    intro F F2 h hL
    have hL : F = [] := hL
    subst hL
    cases F2 with
    | nil => rfl
    | cons f F2 => cases h
  | cons x R ih =>
    intro F F2 h hL
    rw [lvR] at hL ⊢
    refine ⟨hL.1, ?_⟩
    have h2 := hL.2
    split at h2
    · next hk =>
      rw [if_pos hk]
      obtain ⟨fr, F', rfl, e2, e3, e4⟩ := h2
      cases F2 with
      | nil => cases h
      | cons f2 F2 =>
        rw [List.map_cons, List.map_cons] at h
        have q1 := (List.cons.inj h).1
        have q2 := (List.cons.inj h).2
        exact ⟨f2, F2, rfl, (Prod.mk.inj q1).1.trans e2, by rw [frLocs_map q2]; exact e3, ih F' F2 q2 e4⟩
    · next hk =>
      rw [if_neg hk]
      exact ih F F2 h h2
/-- the newest call's own names begin here -/
theorem lv_call0 {f : Nat → Int32} {T : Nat} {k1 k2 k3 k4 k5 k6 k7 k8 k9 k10 w1 w2 w3 w4 w5 w6 w7 w8 : Nat → Int32} : ∀ (L : List Lv) (F : List Fr), lvR f T k1 k2 k3 k4 k5 k6 k7 k8 k9 k10 w1 w2 w3 w4 w5 w6 w7 w8 L F → (lvAt isCall L = none ∧ F = []) ∨ (∃ k fr F', lvAt isCall L = some k ∧ k < L.length ∧ F = fr :: F' ∧ k10 (L.length - 1 - k) = nI (frLocs F')) := by
  intro L
  induction L with
  | nil => intro F h; exact Or.inl ⟨rfl, h⟩
  | cons x R ih =>
    intro F h
    rw [lvR] at h
    have h2 := h.2
    split at h2
    · next hk =>
      obtain ⟨fr, F', e1, e2, e3, e4⟩ := h2
      refine Or.inr ⟨0, fr, F', lvAt_t (by unfold isCall; simp [hk]), by simp, e1, ?_⟩
      rw [List.length_cons, show R.length + 1 - 1 - 0 = R.length by omega]
      exact e3
    · next hk =>
      have hf : isCall x = false := by unfold isCall; simp [hk]
      rw [lvAt_f hf]
      rcases ih F h2 with ⟨c1, c2⟩ | ⟨k, fr, F', c1, c2, c3, c4⟩
      · left; rw [c1]; exact ⟨rfl, c2⟩
      · right
        refine ⟨k + 1, fr, F', by rw [c1]; rfl, by simp; omega, c3, ?_⟩
        rw [List.length_cons, show R.length + 1 - 1 - (k + 1) = R.length - 1 - k by omega]
        exact c4
theorem rLoc_set {f : Nat → Int32} {T : Nat} {cnt : Int32} {nm vl : Nat → Int32} {F F2 : List Fr} {k : Nat} {v : Tr} {x : Int32} (h : rLoc f T cnt nm vl F) (e1 : frLocs F2 = frLocs F) (e2 : ∀ j, fNm F2 j = fNm F j) (e3 : ∀ j, fVl F2 j = if j = k then some v else fVl F j) (hx : cV f T v none x) : rLoc f T cnt nm (upd vl k x) F2 := by
  obtain ⟨h1, h2, h3⟩ := h
  refine ⟨by rw [e1]; exact h1, by rw [e1]; exact h2, fun j hj => ?_⟩
  rw [e1] at hj
  rw [e2, e3]
  refine ⟨(h3 j hj).1, ?_⟩
  rcases Classical.em (j = k) with e | e
  · subst e
    rw [if_pos rfl, upd_at]
    exact hx
  · rw [if_neg e, upd_ne e]
    exact (h3 j hj).2
theorem h_make {n : Nat} {g : Nat → Nat} {i : Nat → Int32} {a : Nat → Nat → Int32} {T : Nat} {G : GS} {N : LN} {F : List Fr} {L : List Lv} {w : Nm} {u : Tr} {x y : Int32} (hn : 2000 ≤ n) (h : CI g i a T G N F L) (hl : lvOk F L (nMade N)) (hg : gOk G) (h44 : i 44 = nI 0) (h43 : i 43 = nI (lvVals L)) (hx : cV (a 0) T (tW w) none x) (hy : cV (a 0) T u none y) : TK n g T (m_Names_make n g i a x y) (match aMake w u G F with
    | .ok (g', F') => (g', N, F', L, 1, none, none)
    | .error e => aFail e G N F L) := by
  obtain ⟨⟨a1, a2, a3, a4, a5, a6, a7, a8, a9⟩, ⟨b1, b2, b3, b4, b5, b6, b7⟩, c1, ⟨d1, d2, d3⟩, ⟨e1, e2, e3, e4⟩⟩ := id h
  have hT : T ≤ 340000 := by omega
  obtain ⟨r, q1, q2⟩ := h_findLocal (n := n) (i := i) (lo := 0) a3 a5 (by omega) d1 d2 (by omega) (fun k hk => (d3 k hk).1) hx
  have hsz := h_size (n := n) (i := i) a3 a5 (by omega) hy
  have hst := tSz_lt hy
  unfold m_Names_make aMake
  rcases q2 with ⟨k, rfl, k1, k2, k3, k4⟩ | ⟨rfl, k1⟩
  · obtain ⟨g1, g2, g3, g4, g5, g6, g7⟩ := fGet_last u F k hl.2.2.2.2.2.2 k2 k3 k4
    rw [g1]
    refine TK_gv (i := i) (a := sv a 13 k y) (x := -nI 2147483648) (r := .ok none) ?_ (by omega) ⟨⟨a1, a2, a3, a4, a5, a6, a7, a8, a9⟩, ⟨b1, b2, b3, b4, b5, b6, b7⟩, c1, rLoc_set ⟨d1, d2, d3⟩ g2 g3 g4 hy, ⟨e1, e2, e3, lvR_fr L F _ g7 e4⟩⟩ ?_ h44 h43 rfl trivial
    · simp (disch := omega) only [ob_s, ob0_s, ob1_s, i32_lit, ile_p, ile_n, ilt_p, ilt_n, ieq_p, ieq_n, ck_n, cl_n, sub_n, nI_add, sh_w, sh_l, an3_w, an3_l, an1_w, an1_l, hN_1, hN_3w, hN_3l, if_true, if_false, q1]
    · obtain ⟨o1, o2, o3, o4, o5, o6, o7⟩ := hl
      refine ⟨o1, o2, o3, o4, by rw [g6]; exact o5, fun f hf => ?_, g5⟩
      have : (f.1, f.2.length) ∈ F.map (fun f => (f.1, f.2.length)) := by
        rw [← g7]
        exact List.mem_map_of_mem (f := fun f : Fr => (f.1, f.2.length)) hf
      obtain ⟨f0, hf0, e0⟩ := List.mem_map.mp this
      have := o6 f0 hf0
      have e9 : f0.2.length = f.2.length := (Prod.mk.inj e0).2
      omega
  · rw [fGet_no F (fun j hj => k1 j (by omega) hj)]
    obtain ⟨s, s1, s2⟩ := h_Names_findGlobal (n := n) (i := i) (nms := (gGlob G).map (·.1)) a3 a5 (by omega) (by rw [List.length_map]; exact b1.1) (by rw [List.length_map]; exact b1.2.1) (fun k hk => by
      rw [List.getElem_map]
      exact (b1.2.2 k (by rw [List.length_map] at hk; exact hk)).1) hx
    have bl := b1.2.1
    have hm1 : ¬ nI 0 ≤ -nI 1 := by decide
    have hm2 : -nI 1 < nI 0 := by decide
    dsimp only
    rcases Nat.lt_or_ge 300 (tSz u) with hbig | hsm
    · rw [if_pos hbig]
      refine TK_er (e := 8) (i := i) (a := a) ?_ (by omega) h hl h44 (by decide) (by decide)
      simp (disch := omega) only [ob_s, ob0_s, ob1_s, i32_lit, ile_p, ile_n, ilt_p, ilt_n, ieq_p, ieq_n, ck_n, cl_n, sub_n, nI_add, sh_w, sh_l, an3_w, an3_l, an1_w, an1_l, hN_1, hN_3w, hN_3l, if_true, if_false, q1, hm2, s1, hsz]
    · rw [if_neg (by omega)]
      rcases s2 with ⟨q, hq, rfl, t1, t2⟩ | ⟨rfl, t1⟩
      · rw [List.length_map] at hq
        rw [List.getElem_map] at t1
        obtain ⟨u1, u2⟩ := gGet_some (gGlob G) q u hq t1 (fun j hj h9 => by
          have := t2 j (by rw [List.length_map]; exact hj) h9
          rw [List.getElem_map] at this
          exact this)
        rw [u1]
        dsimp only
        rw [u2]
        have hgl : rGlob (a 0) T (i 12) (a 10) (upd (a 11) q y) ((gGlob G).set q (w, u)) := by
          refine ⟨by rw [List.length_set]; exact b1.1, by rw [List.length_set]; exact b1.2.1, fun k hk => ?_⟩
          rw [List.length_set] at hk
          rw [List.getElem_set]
          split
          · next e =>
            subst e
            rw [upd_at]
            refine ⟨?_, hy⟩
            have := (b1.2.2 q hk).1
            rw [t1] at this
            exact this
          · next e =>
            rw [upd_ne (fun e9 => e e9.symm)]
            exact b1.2.2 k hk
        refine TK_gv (i := i) (a := sv a 11 q y) (x := -nI 2147483648) (r := .ok none) ?_ (by omega) ⟨⟨a1, a2, a3, a4, a5, a6, a7, a8, a9⟩, ⟨hgl, b2, b3, b4, b5, b6, b7.1, b7.2.1, b7.2.2.1, b7.2.2.2.1, b7.2.2.2.2.1, by show _ ≤ ((gGlob G).set q (w, u)).length; rw [List.length_set]; exact b7.2.2.2.2.2.1, b7.2.2.2.2.2.2⟩, c1, ⟨d1, d2, d3⟩, ⟨e1, e2, e3, e4⟩⟩ hl h44 h43 rfl trivial
        simp (disch := omega) only [ob_s, ob0_s, ob1_s, i32_lit, ile_p, ile_n, ilt_p, ilt_n, ieq_p, ieq_n, ck_n, cl_n, sub_n, nI_add, sh_w, sh_l, an3_w, an3_l, an1_w, an1_l, hN_1, hN_3w, hN_3l, if_true, if_false, q1, hm2, s1, hsz, m_Names_make_b59, m_Names_make_b88]
      · rw [gGet_none (gGlob G) (fun j hj => by
          have := t1 j (by rw [List.length_map]; exact hj)
          rw [List.getElem_map] at this
          exact this)]
        dsimp only
        rcases Nat.lt_or_ge (gGlob G).length 64 with h64 | h64
        · rw [if_neg (by omega)]
          have hgl : rGlob (a 0) T (nI ((gGlob G).length + 1)) (upd (a 10) (gGlob G).length x) (upd (a 11) (gGlob G).length y) (gGlob G ++ [(w, u)]) := by
            refine ⟨by rw [List.length_append]; rfl, by rw [List.length_append, List.length_singleton]; omega, fun k hk => ?_⟩
            rw [List.length_append, List.length_singleton] at hk
            rcases Nat.lt_or_ge k (gGlob G).length with h9 | h9
            · rw [List.getElem_append_left h9, upd_ne (by omega), upd_ne (by omega)]
              exact b1.2.2 k h9
            · obtain rfl : k = (gGlob G).length := by omega
              rw [List.getElem_append_right (Nat.le_refl _), upd_at, upd_at]
              simp
              exact ⟨hx, hy⟩
          refine TK_gv (i := upd i 12 (nI ((gGlob G).length + 1))) (a := sv (sv a 10 (gGlob G).length x) 11 (gGlob G).length y) (x := -nI 2147483648) (r := .ok none) ?_ (by omega) ⟨⟨a1, a2, a3, a4, a5, a6, a7, a8, a9⟩, ⟨hgl, b2, b3, b4, b5, b6, b7.1, b7.2.1, b7.2.2.1, b7.2.2.2.1, fun z hz => (upd_ne (Nat.ne_of_lt (Nat.lt_of_lt_of_le hz b7.2.2.2.2.2.1))).trans (b7.2.2.2.2.1 z hz), by show _ ≤ (gGlob G ++ [(w, u)]).length; rw [List.length_append]; exact Nat.le_trans b7.2.2.2.2.2.1 (Nat.le_add_right _ _), b7.2.2.2.2.2.2⟩, c1, ⟨d1, d2, d3⟩, ⟨e1, e2, e3, e4⟩⟩ hl h44 h43 rfl trivial
          have b11 := b1.1
          simp (disch := omega) only [ob_s, ob0_s, ob1_s, i32_lit, ile_p, ile_n, ilt_p, ilt_n, ieq_p, ieq_n, ck_n, cl_n, sub_n, nI_add, sh_w, sh_l, an3_w, an3_l, an1_w, an1_l, hN_1, hN_3w, hN_3l, if_true, if_false, q1, hm2, s1, hsz, hm1, b11, m_Names_make_b59, m_Names_make_b88]
        · rw [if_pos h64]
          refine TK_er (e := 8) (i := i) (a := a) ?_ (by omega) h hl h44 (by decide) (by decide)
          have b11 := b1.1
          simp (disch := omega) only [ob_s, ob0_s, ob1_s, i32_lit, ile_p, ile_n, ilt_p, ilt_n, ieq_p, ieq_n, ck_n, cl_n, sub_n, nI_add, sh_w, sh_l, an3_w, an3_l, an1_w, an1_l, hN_1, hN_3w, hN_3l, if_true, if_false, q1, hm2, s1, hsz, hm1, b11]
theorem h_local {n : Nat} {g : Nat → Nat} {i : Nat → Int32} {a : Nat → Nat → Int32} {T : Nat} {G : GS} {N : LN} {F : List Fr} {L : List Lv} {w : Nm} {x : Int32} (hn : 2000 ≤ n) (h : CI g i a T G N F L) (hl : lvOk F L (nMade N)) (h44 : i 44 = nI 0) (h43 : i 43 = nI (lvVals L)) (hx : cV (a 0) T (tW w) none x) : TK n g T (m_Deeds_local n g i a x) (match aLocal w F with
    | .ok F' => (G, N, F', L, 1, none, none)
    | .error e => aFail e G N F L) := by
  obtain ⟨⟨a1, a2, a3, a4, a5, a6, a7, a8, a9⟩, ⟨b1, b2, b3, b4, b5, b6, b7⟩, c1, ⟨d1, d2, d3⟩, ⟨e1, e2, e3, e4⟩⟩ := id h
  have ec := h_call0 (n := n) (by omega) h hl
  have hL := hl.2.1
  unfold m_Deeds_local aLocal
  rw [show (0 : Int32) = nI 0 from rfl, ec, ob0_s]
  rcases lv_call0 L F e4 with ⟨q1, q2⟩ | ⟨k, fr, F', q1, q2, q3, q4⟩
  · rw [q1, q2]
    refine TK_er (e := 12) (i := i) (a := a) ?_ (by omega) (by rw [q2] at h; exact h) (by rw [q2] at hl; exact hl) h44 (by decide) (by decide)
    rw [show ixR L.length none = -nI 1 from rfl, if_neg (by decide)]
    rfl
  · subst q3
    rw [q1, show ixR L.length (some k) = nI (L.length - 1 - k) from rfl]
    have hfl : frLocs (fr :: F') = fr.2.length + frLocs F' := rfl
    have h12 : fr.2.length ≤ 12 := hl.2.2.2.2.2.1 fr List.mem_cons_self
    obtain ⟨r, p1, p2⟩ := h_findLocal (n := n) (i := i) (lo := frLocs F') a3 a5 (by omega) d1 d2 (by omega) (fun k hk => (d3 k hk).1) hx
    have hfn : ∀ j (hj : j < fr.2.length), fNm (fr :: F') (frLocs F' + j) = (fr.2[j]'hj).1 := by
      intro j hj
      rw [fNm, if_pos (by omega), show frLocs F' + j - frLocs F' = j by omega, getD_in hj]
    dsimp only
    rcases p2 with ⟨m, rfl, m1, m2, m3, m4⟩ | ⟨rfl, m1⟩
    · have hm : m - frLocs F' < fr.2.length := by omega
      have e9 : (fr.2[m - frLocs F']'hm).1 = w := by
        have := hfn (m - frLocs F') hm
        rw [show frLocs F' + (m - frLocs F') = m by omega, m3] at this
        exact this.symm
      obtain ⟨g1, _⟩ := lGet_some fr.2 (m - frLocs F') hm .nil (hl.2.2.2.2.2.2 fr List.mem_cons_self) e9
      rw [g1]
      refine TK_gv (i := i) (a := a) (x := -nI 2147483648) (r := .ok none) ?_ (by omega) h hl h44 h43 rfl trivial
      simp (disch := omega) only [ob_s, ob0_s, ob1_s, i32_lit, ile_p, ile_n, ilt_p, ilt_n, ieq_p, ieq_n, ck_n, cl_n, sub_n, nI_add, sh_w, sh_l, an3_w, an3_l, an1_w, an1_l, hN_1, hN_3w, hN_3l, if_true, if_false, q4, p1]
    · have g1 := lGet_none (w := w) fr.2 (fun j hj e => m1 (frLocs F' + j) (by omega) (by omega) (by rw [hfn j hj]; exact e))
      rw [g1]
      dsimp only
      have hm2 : -nI 1 < nI 0 := by decide
      rcases Nat.lt_or_ge fr.2.length 12 with h9 | h9
      · rw [if_neg (show ¬ 12 ≤ fr.2.length by omega)]
        have hlt : frLocs (fr :: F') < 1800 := by
          have := frLocs_le hl.2.2.2.2.2.1
          have := lvCalls_le L
          have := hl.2.2.2.2.1
          have hF' := frLocs_le (F := F') (fun f hf => hl.2.2.2.2.2.1 f (List.mem_cons_of_mem _ hf))
          simp only [List.length_cons] at *
          omega
        have ha := h_addLocal (n := n) (g := g) (a := a) (x := x) (y := -nI 2147483648) d1 hlt
        have hloc := rLoc_add (c := fr.1) (l := fr.2) (w := w) (o := none) (x := x) (y := -nI 2147483648) ⟨d1, d2, d3⟩ hlt hx rfl
        refine TK_gv (i := upd i 13 (nI (frLocs (fr :: F') + 1))) (a := sv (sv a 12 (frLocs (fr :: F')) x) 13 (frLocs (fr :: F')) (-nI 2147483648)) (x := -nI 2147483648) (r := .ok none) ?_ (by omega) ⟨⟨a1, a2, a3, a4, a5, a6, a7, a8, a9⟩, ⟨b1, b2, b3, b4, b5, b6, b7⟩, c1, hloc, ⟨e1, e2, e3, lvR_top (c := fr.1) (l := fr.2) e4⟩⟩ ?_ h44 h43 rfl trivial
        · have e13 : i 13 - nI (frLocs F') = nI fr.2.length := by rw [d1, hfl, sub_n (by omega), show fr.2.length + frLocs F' - frLocs F' = fr.2.length by omega]
          simp (disch := omega) only [ob_s, ob0_s, ob1_s, i32_lit, ile_p, ile_n, ilt_p, ilt_n, ieq_p, ieq_n, ck_n, cl_n, sub_n, nI_add, sh_w, sh_l, an3_w, an3_l, an1_w, an1_l, hN_1, hN_3w, hN_3l, if_true, if_false, q4, p1, hm2, e13, ha]
        · obtain ⟨o1, o2, o3, o4, o5, o6, o7⟩ := hl
          refine ⟨o1, o2, o3, o4, o5, fun f hf => ?_, fun f hf => ?_⟩
          · rcases List.mem_cons.mp hf with rfl | hf
            · show (fr.2 ++ [(w, none)]).length ≤ 12
              rw [List.length_append, List.length_singleton]
              omega
            · exact o6 f (List.mem_cons_of_mem _ hf)
          · rcases List.mem_cons.mp hf with rfl | hf
            · show ((fr.2 ++ [(w, none)]).map (fun q : Loc => q.1)).Nodup
              rw [List.map_append, List.nodup_append]
              refine ⟨o7 fr List.mem_cons_self, by simp, ?_⟩
              intro z hz z' hz' e
              have hz' : z' = w := by simpa using hz'
              subst hz'
              subst e
              obtain ⟨q, hq, e0⟩ := List.mem_map.mp hz
              obtain ⟨j, hj, rfl⟩ := List.getElem_of_mem hq
              exact m1 (frLocs F' + j) (by omega) (by omega) (by rw [hfn j hj]; exact e0)
            · exact o7 f (List.mem_cons_of_mem _ hf)
      · rw [if_pos h9]
        have e13 : i 13 - nI (frLocs F') = nI fr.2.length := by rw [d1, hfl, sub_n (by omega), show fr.2.length + frLocs F' - frLocs F' = fr.2.length by omega]
        refine TK_er (e := 8) (i := i) (a := a) ?_ (by omega) h hl h44 (by decide) (by decide)
        simp (disch := omega) only [ob_s, ob0_s, ob1_s, i32_lit, ile_p, ile_n, ilt_p, ilt_n, ieq_p, ieq_n, ck_n, cl_n, sub_n, nI_add, sh_w, sh_l, an3_w, an3_l, an1_w, an1_l, hN_1, hN_3w, hN_3l, if_true, if_false, q4, p1, hm2, e13]
/-! procedures -/
def inP (ms : List Tr) (k : Nat) : Prop := (∀ j (h : j < ms.length), j < k → isW (ms[j]'h) = true) ∧ ((ms.take k).map tLet).Nodup
theorem inP_succ {ms : List Tr} {k : Nat} (hk : k < ms.length) : inP ms (k + 1) ↔ inP ms k ∧ isW ms[k] = true ∧ tLet ms[k] ∉ (ms.take k).map tLet := by
  have et : (ms.take (k + 1)).map tLet = (ms.take k).map tLet ++ [tLet ms[k]] := by
    rw [List.take_add_one, List.getElem?_eq_getElem hk, List.map_append]
    rfl
  unfold inP
  rw [et, List.nodup_append]
  constructor
  · rintro ⟨h1, h2, _, h3⟩
    refine ⟨⟨fun j hj hjk => h1 j hj (by omega), h2⟩, h1 k hk (by omega), fun hm => h3 _ hm _ (by simp) rfl⟩
  · rintro ⟨⟨h1, h2⟩, h3, h4⟩
    refine ⟨fun j hj hjk => ?_, h2, by simp, fun z hz z' hz' e => ?_⟩
    · rcases Nat.lt_or_ge j k with h9 | h9
      · exact h1 j hj h9
      · obtain rfl : j = k := by omega
        exact h3
    · have hz' : z' = tLet ms[k] := by simpa using hz'
      subst hz'
      subst e
      exact h4 hz
theorem h_inputs_in {n : Nat} {g : Nat → Nat} {i : Nat → Int32} {a : Nat → Nat → Int32} {top : Nat} (ht : top ≤ g 0) (hg : g 0 ≤ 340000) {ms : List Tr} {x y : Int32} {k : Nat} {rc : Int32 → Int32 → Int32 → Option Int32} (hn : 1000 ≤ n) (hx : cV (a 0) top (tL ms) none x) (hk : k < ms.length) (hms : ms.length ≤ 600) (hy : cV (a 0) top (tW (tLet ms[k])) none y) (hW : ∀ j (h : j < ms.length), j < k → isW (ms[j]'h) = true) : ∀ (m j q : Nat), k = j + m → m < q → (∀ z (h : z < ms.length), z < j → tLet (ms[z]'h) ≠ tLet ms[k]) → m_Deeds_canBeInputs_b47 n g i a rc q x (nI ms.length) (nI k) y (nI j) = (if tLet ms[k] ∈ (ms.take k).map tLet then some (nI 0) else rc x (nI ms.length) (nI (k + 1))) := by
  intro m
  induction m with
  | zero =>
    intro j q e hq hne
    obtain ⟨q, rfl⟩ : ∃ q', q = q' + 1 := ⟨q - 1, by omega⟩
    obtain rfl : k = j := by omega
    rw [if_neg, m_Deeds_canBeInputs_b47]
    · simp (disch := omega) only [ob_s, ob0_s, ob1_s, i32_lit, ile_p, ile_n, ilt_p, ilt_n, ieq_p, ieq_n, ck_n, cl_n, sub_n, nI_add, sh_w, sh_l, an3_w, an3_l, an1_w, an1_l, hN_1, hN_3w, hN_3l, if_true, if_false]
    · intro hm
      obtain ⟨v, hv, e0⟩ := List.mem_map.mp hm
      obtain ⟨z, hz, rfl⟩ := List.getElem_of_mem hv
      rw [List.length_take] at hz
      rw [List.getElem_take] at e0
      exact hne z (by omega) (by omega) e0
  | succ m ih =>
    intro j q e hq hne
    obtain ⟨q, rfl⟩ : ∃ q', q = q' + 1 := ⟨q - 1, by omega⟩
    have hj : j < ms.length := by omega
    obtain ⟨z, p1, p2⟩ := h_member (n := n) (i := i) ht hg hx hj
    rw [isW_eq p2 (hW j hj (by omega))] at p2
    have es := h_sameWord (n := n) (i := i) ht hg (by omega) hy p2
    rw [m_Deeds_canBeInputs_b47]
    rcases Classical.em (tLet ms[k] = tLet ms[j]) with he | he
    · have hmem : tLet ms[k] ∈ (ms.take k).map tLet := by
        rw [he]
        refine List.mem_map_of_mem ?_
        rw [List.mem_take_iff_getElem]
        exact ⟨j, by omega, rfl⟩
      rw [if_pos hmem]
      simp (disch := omega) only [ob_s, ob0_s, ob1_s, i32_lit, ile_p, ile_n, ilt_p, ilt_n, ieq_p, ieq_n, ck_n, cl_n, sub_n, nI_add, sh_w, sh_l, an3_w, an3_l, an1_w, an1_l, hN_1, hN_3w, hN_3l, if_true, if_false, p1, es, he, decide_true, b1_t]
    · simp (disch := omega) only [ob_s, ob0_s, ob1_s, i32_lit, ile_p, ile_n, ilt_p, ilt_n, ieq_p, ieq_n, ck_n, cl_n, sub_n, nI_add, sh_w, sh_l, an3_w, an3_l, an1_w, an1_l, hN_1, hN_3w, hN_3l, if_true, if_false, p1, es, he, decide_false, b1_f]
      exact ih (j + 1) q (by omega) (by omega) (fun z hz hzj => by
        rcases Nat.lt_or_ge z j with h9 | h9
        · exact hne z hz h9
        · obtain rfl : z = j := by omega
          exact fun e => he e.symm)
theorem h_inputs_b {n : Nat} {g : Nat → Nat} {i : Nat → Int32} {a : Nat → Nat → Int32} {top : Nat} (ht : top ≤ g 0) (hg : g 0 ≤ 340000) {ms : List Tr} {x : Int32} (hn : 1000 ≤ n) (hx : cV (a 0) top (tL ms) none x) (hms : ms.length ≤ 600) : ∀ (m k q : Nat), ms.length = k + m → m < q → inP ms k → m_Deeds_canBeInputs_b18 n g i a q x (nI ms.length) (nI k) = some (b1 (dec (inP ms ms.length))) := by
  intro m
  induction m with
  | zero =>
    intro k q e hq hp
    obtain ⟨q, rfl⟩ : ∃ q', q = q' + 1 := ⟨q - 1, by omega⟩
    obtain rfl : k = ms.length := by omega
    rw [m_Deeds_canBeInputs_b18, dec_t hp]
    simp (disch := omega) only [ob_s, ob0_s, ob1_s, i32_lit, ile_p, ile_n, ilt_p, ilt_n, ieq_p, ieq_n, ck_n, cl_n, sub_n, nI_add, sh_w, sh_l, an3_w, an3_l, an1_w, an1_l, hN_1, hN_3w, hN_3l, if_true, if_false, b1_t]
  | succ m ih =>
    intro k q e hq hp
    obtain ⟨q, rfl⟩ : ∃ q', q = q' + 1 := ⟨q - 1, by omega⟩
    have hk : k < ms.length := by omega
    obtain ⟨y, p1, p2⟩ := h_member (n := n) (i := i) ht hg hx hk
    obtain ⟨kw, _, _⟩ := cV_kinds (by omega) p2 n
    rw [m_Deeds_canBeInputs_b18]
    cases hw : isW ms[k] with
    | false =>
      rw [dec_f (fun h => by have := h.1 k hk hk; rw [hw] at this; cases this)]
      simp (disch := omega) only [ob_s, ob0_s, ob1_s, i32_lit, ile_p, ile_n, ilt_p, ilt_n, ieq_p, ieq_n, ck_n, cl_n, sub_n, nI_add, sh_w, sh_l, an3_w, an3_l, an1_w, an1_l, hN_1, hN_3w, hN_3l, if_true, if_false, p1, kw, hw, b1_f]
    | true =>
      have p3 := p2
      rw [isW_eq p2 hw] at p3
      have hin := h_inputs_in (n := n) (g := g) (i := i) (a := a) (rc := m_Deeds_canBeInputs_b18 n g i a q) ht hg hn hx hk hms p3 hp.1 k 0 n (by omega) (by omega) (fun z _ h => absurd h (Nat.not_lt_zero z))
      simp (disch := omega) only [ob_s, ob0_s, ob1_s, i32_lit, ile_p, ile_n, ilt_p, ilt_n, ieq_p, ieq_n, ck_n, cl_n, sub_n, nI_add, sh_w, sh_l, an3_w, an3_l, an1_w, an1_l, hN_1, hN_3w, hN_3l, if_true, if_false, p1, kw, hw, b1_t]
      rw [hin]
      rcases Classical.em (tLet ms[k] ∈ (ms.take k).map tLet) with hm | hm
      · rw [if_pos hm, dec_f]
        · rfl
        · intro h
          have h2 : inP ms (k + 1) := by
            refine ⟨fun j hj _ => h.1 j hj (by omega), ?_⟩
            have : ms.take (k + 1) = (ms.take ms.length).take (k + 1) := by rw [List.take_length]
            rw [this, List.map_take]
            exact List.Nodup.sublist (List.take_sublist _ _) h.2
          exact ((inP_succ hk).mp h2).2.2 hm
      · rw [if_neg hm]
        exact ih (k + 1) q (by omega) (by omega) ((inP_succ hk).mpr ⟨hp, hw, hm⟩)
theorem h_inputs {n : Nat} {g : Nat → Nat} {i : Nat → Int32} {a : Nat → Nat → Int32} {top : Nat} (ht : top ≤ g 0) (hg : g 0 ≤ 340000) {ms : List Tr} {x : Int32} (hn : 1000 ≤ n) (hx : cV (a 0) top (tL ms) none x) : ∃ b, m_Deeds_canBeInputs n g i a x = some (b1 b) ∧ (b = false → aInputs ms = none) ∧ (b = true → aInputs ms = some (ms.map tLet) ∧ ms.length ≤ 5 ∧ (ms.map tLet).Nodup ∧ (ms.map tLet).map tW = ms) := by
  have hc := cV_cnt hx (isL_tL ms)
  rw [tMem_tL] at hc
  have hcnt := h_count (n := n) (i := i) ht hg hx
  rw [tMem_tL] at hcnt
  unfold m_Deeds_canBeInputs
  rcases Nat.lt_or_ge 5 ms.length with h5 | h5
  · refine ⟨false, ?_, fun _ => ?_, fun h => by cases h⟩
    · simp (disch := omega) only [ob_s, ob0_s, ob1_s, i32_lit, ile_p, ile_n, ilt_p, ilt_n, ieq_p, ieq_n, ck_n, cl_n, sub_n, nI_add, sh_w, sh_l, an3_w, an3_l, an1_w, an1_l, hN_1, hN_3w, hN_3l, if_true, if_false, hcnt, b1_f]
    · unfold aInputs
      rw [if_neg (by omega)]
  · have hb := h_inputs_b (n := n) (g := g) (i := i) (a := a) ht hg hn hx hc ms.length 0 n (by omega) (by omega) ⟨fun j _ h => absurd h (Nat.not_lt_zero j), by simp⟩
    have hiff : inP ms ms.length ↔ (∀ v ∈ ms, isW v = true) ∧ (ms.map tLet).Nodup := by
      unfold inP
      rw [List.take_length]
      constructor
      · rintro ⟨h1, h2⟩
        refine ⟨fun v hv => ?_, h2⟩
        obtain ⟨j, hj, rfl⟩ := List.getElem_of_mem hv
        exact h1 j hj hj
      · rintro ⟨h1, h2⟩
        exact ⟨fun j hj _ => h1 _ (List.getElem_mem hj), h2⟩
    refine ⟨dec (inP ms ms.length), ?_, fun h => ?_, fun h => ?_⟩
    · simp (disch := omega) only [ob_s, ob0_s, ob1_s, i32_lit, ile_p, ile_n, ilt_p, ilt_n, ieq_p, ieq_n, ck_n, cl_n, sub_n, nI_add, sh_w, sh_l, an3_w, an3_l, an1_w, an1_l, hN_1, hN_3w, hN_3l, if_true, if_false, hcnt]
      exact hb
    · unfold aInputs
      rw [if_neg]
      rintro ⟨_, h2, h3⟩
      rw [dec_t (hiff.mpr ⟨h2, h3⟩)] at h
      cases h
    · have hp : inP ms ms.length := by
        rcases Classical.em (inP ms ms.length) with hp | hp
        · exact hp
        · rw [dec_f hp] at h; cases h
      obtain ⟨h2, h3⟩ := hiff.mp hp
      refine ⟨by unfold aInputs; rw [if_pos ⟨h5, h2, h3⟩], h5, h3, ?_⟩
      apply List.ext_getElem
      · simp
      · intro j h1 h4
        rw [List.getElem_map, List.getElem_map]
        obtain ⟨z, _, p2⟩ := h_member (n := n) (i := i) ht hg hx h4
        exact (isW_eq p2 (h2 _ (List.getElem_mem h4))).symm
theorem h_find {n : Nat} {g : Nat → Nat} {i : Nat → Int32} {a : Nat → Nat → Int32} {T : Nat} {G : GS} {N : LN} {F : List Fr} {L : List Lv} {w : Nm} {x : Int32} (hn : 2000 ≤ n) (h : CI g i a T G N F L) (hx : cV (a 0) T (tW w) none x) : (pFind (gProcs G) w = none ∧ m_Procedures_find n g i a x = some (-nI 1)) ∨ (∃ k, ∃ hk : k < (gProcs G).length, pFind (gProcs G) w = some k ∧ m_Procedures_find n g i a x = some (nI k) ∧ ((gProcs G)[k]'hk).1 = w) := by
  obtain ⟨a1, a2, a3, a4, a5, a6, a7, a8, a9⟩ := h.1
  have b2 := h.2.1.2.1
  obtain ⟨s, s1, s2⟩ := h_Procedures_find (n := n) (i := i) (nms := (gProcs G).map (·.1)) a3 a5 (by omega) (by rw [List.length_map]; exact b2.1) (by rw [List.length_map]; exact b2.2.1) (fun k hk => by
    rw [List.getElem_map]
    exact (b2.2.2 k (by rw [List.length_map] at hk; exact hk)).1) hx
  rcases s2 with ⟨q, hq, rfl, t1, t2⟩ | ⟨rfl, t1⟩
  · rw [List.length_map] at hq
    rw [List.getElem_map] at t1
    right
    exact ⟨q, hq, pFind_some (gProcs G) q ⟨hq, t1, fun j hj h9 => by
      have := t2 j (by rw [List.length_map]; exact hj) h9
      rw [List.getElem_map] at this
      exact this⟩, s1, t1⟩
  · left
    exact ⟨pFind_none (w := w) (gProcs G) (fun j hj => by
      have := t1 j (by rw [List.length_map]; exact hj)
      rw [List.getElem_map] at this
      exact this), s1⟩
theorem pOk_tell {ps : List Proc} {w : Nm} {ins : List Nm} {b : Tr} (h : ∀ p ∈ ps, pOk p) (hp : pOk (w, ins, b)) : ∀ p ∈ pTell ps w ins b, pOk p := by
  unfold pTell
  intro p hpm
  split at hpm
  · rcases List.mem_or_eq_of_mem_set hpm with h9 | h9
    · exact h p h9
    · rw [h9]; exact hp
  · rcases List.mem_append.mp hpm with h9 | h9
    · exact h p h9
    · rw [List.mem_singleton.mp h9]; exact hp
/-- a procedure is told -/
theorem h_ptell {n : Nat} {g : Nat → Nat} {i : Nat → Int32} {a : Nat → Nat → Int32} {T : Nat} {G : GS} {N : LN} {F : List Fr} {L : List Lv} {w : Nm} {ins : List Nm} {bd : Tr} {x y z : Int32} (hn : 2000 ≤ n) (h : CI g i a T G N F L) (hx : cV (a 0) T (tW w) none x) (hy : cV (a 0) T (tL (ins.map tW)) none y) (hz : cV (a 0) T bd none z) : (pFind (gProcs G) w = none ∧ 40 ≤ (gProcs G).length ∧ m_Procedures_tell n g i a x y z = some (i, a, nI 0)) ∨ (¬ (pFind (gProcs G) w = none ∧ 40 ≤ (gProcs G).length) ∧ ∃ i' a', m_Procedures_tell n g i a x y z = some (i', a', nI 1) ∧ CI g i' a' T (gSetProcs G (pTell (gProcs G) w ins bd)) N F L ∧ (∀ q, q ≠ 15 → i' q = i q) ∧ (∀ q, q ≠ 15 → q ≠ 16 → q ≠ 17 → a' q = a q)) := by
  obtain ⟨⟨a1, a2, a3, a4, a5, a6, a7, a8, a9⟩, ⟨b1, b2, b3, b4, b5, b6, b7⟩, c1, d1, e1⟩ := id h
  have bl := b2.2.1
  have bc := b2.1
  rcases h_find (n := n) hn h hx with ⟨q1, q2⟩ | ⟨k, hk, q1, q2, q3⟩
  · rcases Nat.lt_or_ge (gProcs G).length 40 with h4 | h4
    · right
      refine ⟨by omega, upd i 15 (nI ((gProcs G).length + 1)), sv (sv (sv a 15 (gProcs G).length x) 16 (gProcs G).length y) 17 (gProcs G).length z, ?_, ⟨⟨a1, a2, a3, a4, a5, a6, a7, a8, a9⟩, ⟨b1, ?_, b3, b4, b5, b6, b7.1, b7.2.1, b7.2.2.1, b7.2.2.2.1, b7.2.2.2.2.1, b7.2.2.2.2.2.1, fun j hj => (upd_ne (Nat.ne_of_lt (Nat.lt_of_lt_of_le hj b7.2.2.2.2.2.2.2))).trans (b7.2.2.2.2.2.2.1 j hj), by unfold pTell; rw [q1]; show _ ≤ (gProcs G ++ [(w, ins, bd)]).length; rw [List.length_append]; exact Nat.le_trans b7.2.2.2.2.2.2.2 (Nat.le_add_right _ _)⟩, c1, d1, e1⟩, fun q hq => upd_ne hq, fun q h1 h2 h3 => (updA_ne h3).trans ((updA_ne h2).trans (updA_ne h1))⟩
      · unfold m_Procedures_tell m_Procedures_tell_b23 m_Procedures_tell_b52
        have hm1 : ¬ nI 0 ≤ -nI 1 := by decide
        simp (disch := omega) only [ob_s, ob0_s, ob1_s, i32_lit, ile_p, ile_n, ilt_p, ilt_n, ieq_p, ieq_n, ck_n, cl_n, sub_n, nI_add, sh_w, sh_l, an3_w, an3_l, an1_w, an1_l, hN_1, hN_3w, hN_3l, if_true, if_false, q2, hm1, bc]
      · show rProc (a 0) T (nI ((gProcs G).length + 1)) (upd (a 15) (gProcs G).length x) (upd (a 16) (gProcs G).length y) (upd (a 17) (gProcs G).length z) (pTell (gProcs G) w ins bd)
        unfold pTell
        rw [q1]
        refine ⟨by rw [List.length_append]; rfl, by rw [List.length_append, List.length_singleton]; omega, fun j hj => ?_⟩
        have hj : j < (gProcs G ++ [(w, ins, bd)]).length := hj
        rw [List.length_append, List.length_singleton] at hj
        show cV (a 0) T (tW ((gProcs G ++ [(w, ins, bd)])[j]).1) none _ ∧ cV (a 0) T (tL (((gProcs G ++ [(w, ins, bd)])[j]).2.1.map tW)) none _ ∧ cV (a 0) T ((gProcs G ++ [(w, ins, bd)])[j]).2.2 none _
        rcases Nat.lt_or_ge j (gProcs G).length with h9 | h9
        · have e9 : (gProcs G ++ [(w, ins, bd)])[j] = (gProcs G)[j] := List.getElem_append_left h9
          rw [e9, upd_ne (by omega), upd_ne (by omega), upd_ne (by omega)]
          exact b2.2.2 j h9
        · obtain rfl : j = (gProcs G).length := by omega
          have e9 : (gProcs G ++ [(w, ins, bd)])[(gProcs G).length] = (w, ins, bd) := by
            rw [List.getElem_append_right (Nat.le_refl _)]
            simp
          rw [e9, upd_at, upd_at, upd_at]
          exact ⟨hx, hy, hz⟩
    · left
      refine ⟨q1, h4, ?_⟩
      unfold m_Procedures_tell
      have hm1 : ¬ nI 0 ≤ -nI 1 := by decide
      simp (disch := omega) only [ob_s, ob0_s, ob1_s, i32_lit, ile_p, ile_n, ilt_p, ilt_n, ieq_p, ieq_n, ck_n, cl_n, sub_n, nI_add, sh_w, sh_l, an3_w, an3_l, an1_w, an1_l, hN_1, hN_3w, hN_3l, if_true, if_false, q2, hm1, bc]
  · right
    refine ⟨(fun e => by rw [q1] at e; cases e.1), i, sv (sv a 16 k y) 17 k z, ?_, ⟨⟨a1, a2, a3, a4, a5, a6, a7, a8, a9⟩, ⟨b1, ?_, b3, b4, b5, b6, b7.1, b7.2.1, b7.2.2.1, b7.2.2.2.1, b7.2.2.2.2.1, b7.2.2.2.2.2.1, b7.2.2.2.2.2.2.1, by unfold pTell; rw [q1]; show _ ≤ ((gProcs G).set k (w, ins, bd)).length; rw [List.length_set]; exact b7.2.2.2.2.2.2.2⟩, c1, d1, e1⟩, fun q hq => rfl, fun q h1 h2 h3 => (updA_ne h3).trans (updA_ne h2)⟩
    · unfold m_Procedures_tell m_Procedures_tell_b23 m_Procedures_tell_b52
      simp (disch := omega) only [ob_s, ob0_s, ob1_s, i32_lit, ile_p, ile_n, ilt_p, ilt_n, ieq_p, ieq_n, ck_n, cl_n, sub_n, nI_add, sh_w, sh_l, an3_w, an3_l, an1_w, an1_l, hN_1, hN_3w, hN_3l, if_true, if_false, q2]
    · show rProc (a 0) T (i 15) (a 15) (upd (a 16) k y) (upd (a 17) k z) (pTell (gProcs G) w ins bd)
      unfold pTell
      rw [q1]
      refine ⟨by show i 15 = nI ((gProcs G).set k (w, ins, bd)).length; rw [List.length_set]; exact bc, by show ((gProcs G).set k (w, ins, bd)).length ≤ 40; rw [List.length_set]; exact bl, fun j hj => ?_⟩
      have hj : j < ((gProcs G).set k (w, ins, bd)).length := hj
      rw [List.length_set] at hj
      show cV (a 0) T (tW (((gProcs G).set k (w, ins, bd))[j]'(by rw [List.length_set]; exact hj)).1) none _ ∧ cV (a 0) T (tL ((((gProcs G).set k (w, ins, bd))[j]'(by rw [List.length_set]; exact hj)).2.1.map tW)) none _ ∧ cV (a 0) T (((gProcs G).set k (w, ins, bd))[j]'(by rw [List.length_set]; exact hj)).2.2 none _
      rw [List.getElem_set]
      split
      · next e =>
        subst e
        rw [upd_at, upd_at]
        refine ⟨?_, hy, hz⟩
        have := (b2.2.2 k hj).1
        rw [q3] at this
        exact this
      · next e =>
        rw [upd_ne (fun e9 => e e9.symm), upd_ne (fun e9 => e e9.symm)]
        exact b2.2.2 j hj
theorem h_define {n : Nat} {g : Nat → Nat} {i : Nat → Int32} {a : Nat → Nat → Int32} {T : Nat} {G : GS} {N : LN} {F : List Fr} {L : List Lv} {w : Nm} {l : Tr} {x y : Int32} (hn : 2000 ≤ n) (h : CI g i a T G N F L) (hl : lvOk F L (nMade N)) (h44 : i 44 = nI 0) (h43 : i 43 = nI (lvVals L)) (hx : cV (a 0) T (tW w) none x) (hy : cV (a 0) T l none y) (hli : isL l = true) : TK n g T (m_Deeds_tell n g i a x y) (match aDefine w l (gProcs G) with
    | .ok ps => (gSetProcs G ps, N, F, L, 1, none, none)
    | .error e => aFail e G N F L) := by
  obtain ⟨a1, a2, a3, a4, a5, a6, a7, a8, a9⟩ := h.1
  have em := h_meaning (n := n) (i := i) a3 a5 a6 (by omega) hx
  have hlt := aLex_lt w
  have el := isL_eq hy hli
  have hcnt := h_count (n := n) (i := i) a3 a5 hy
  have hc6 := cV_cnt hy hli
  have hy2 := hy
  rw [el] at hy2
  have err3 : ∀ o, o = some (i, a, -nI 2147483645) → TK n g T o (aFail 3 G N F L) := fun o ho => TK_er (e := 3) ho (by omega) h hl h44 (by decide) (by decide)
  have memb : ∀ k, k ≤ 1 → ∃ z, m_Heap_member n g i a y (nI k) = some z ∧ oV (a 0) T ((tMem l)[k]?) z := by
    intro k hk
    rcases Nat.lt_or_ge k (tMem l).length with h9 | h9
    · obtain ⟨z, p1, p2⟩ := h_member (n := n) (i := i) a3 a5 hy2 h9
      rw [List.getElem?_eq_getElem h9]
      exact ⟨z, p1, p2⟩
    · rw [List.getElem?_eq_none h9]
      exact ⟨_, h_member_no (n := n) (i := i) a3 a5 hy2 h9 (by omega), rfl⟩
  obtain ⟨z0, m1, m2⟩ := memb 0 (by decide)
  obtain ⟨z1, m3, m4⟩ := memb 1 (by decide)
  unfold m_Deeds_tell
  rw [show (0 : Int32) = nI 0 from rfl, show (1 : Int32) = nI 1 from rfl, m1, ob0_s, m3, ob0_s, em, ob0_s]
  rcases Classical.em (aLex w = 0) with h0 | h0
  · rw [h0, if_pos rfl, hcnt, ob0_s]
    rcases Classical.em ((tMem l).length = 2) with h2 | h2
    · rw [h2, if_pos (show nI 2 = (2 : Int32) from rfl)]
      obtain ⟨p, q, hpq⟩ : ∃ p q, tMem l = [p, q] := by
        match hm : tMem l, h2 with
        | [p, q], _ => exact ⟨p, q, rfl⟩
      rw [hpq] at m2 m4
      have m2 : cV (a 0) T p none z0 := m2
      have m4 : cV (a 0) T q none z1 := m4
      obtain ⟨_, kl, _⟩ := cV_kinds (by omega) m2 n
      obtain ⟨_, kl2, _⟩ := cV_kinds (by omega) m4 n
      have hsz := h_size (n := n) (i := i) a3 a5 (by omega) m4
      have hst := tSz_lt m4
      unfold aDefine
      rw [hpq]
      dsimp only
      cases hp : isL p with
      | false =>
        rw [if_neg (by rintro ⟨_, h9, _⟩; cases h9)]
        refine err3 _ ?_
        rw [kl, hp, ob0_s, b1_f, if_pos rfl]
        rfl
      | true =>
        cases hq : isL q with
        | false =>
          rw [if_neg (by rintro ⟨_, _, h9, _⟩; cases h9)]
          refine err3 _ ?_
          rw [kl, hp, ob0_s, b1_t, if_neg (by decide), kl2, hq, ob0_s, b1_f, if_pos rfl]
          rfl
        | true =>
          have ep := isL_eq m2 hp
          have m2' := m2
          rw [ep] at m2'
          obtain ⟨b, w1, w2, w3⟩ := h_inputs (n := n) (i := i) a3 a5 (by omega) m2'
          rw [kl, hp, ob0_s, b1_t, if_neg (by decide), kl2, hq, ob0_s, b1_t, if_neg (by decide), w1, ob0_s]
          cases b with
          | false =>
            rw [b1_f, if_pos rfl]
            have e3 := err3 (some (i, a, -nI 2147483645)) rfl
            rcases Classical.em (tSz q ≤ 600) with h6 | h6
            · rw [if_pos ⟨h0, rfl, rfl, h6⟩, w2 rfl]
              exact e3
            · rw [if_neg (fun h9 => h6 h9.2.2.2)]
              exact e3
          | true =>
            obtain ⟨v1, v2, v3, v4⟩ := w3 rfl
            rw [b1_t, if_neg (by decide), hsz, ob0_s]
            rcases Nat.lt_or_ge 600 (tSz q) with h6 | h6
            · rw [if_neg (show ¬ nI (tSz q) ≤ (600 : Int32) from nI_ge (a := 600) h6 (by omega)), if_neg (by omega)]
              exact err3 _ rfl
            · rw [if_pos (show nI (tSz q) ≤ (600 : Int32) from nI_le (b := 600) h6 (by decide)), if_pos ⟨h0, rfl, rfl, h6⟩, v1]
              dsimp only
              have hins : cV (a 0) T (tL (((tMem p).map tLet).map tW)) none z0 := by rw [v4]; exact m2'
              rcases h_ptell (n := n) (w := w) (ins := (tMem p).map tLet) (bd := q) hn h hx hins m4 with ⟨t1, t2, t3⟩ | ⟨t1, i', a', t3, t4, t5, _⟩
              · rw [if_pos ⟨t1, t2⟩]
                refine TK_er (e := 8) (i := i) (a := a) ?_ (by omega) h hl h44 (by decide) (by decide)
                rw [t3, ob_s, if_pos rfl]
                rfl
              · rw [if_neg t1]
                refine TK_gv (i := i') (a := a') (x := -nI 2147483648) (r := .ok none) ?_ (by omega) t4 hl (by rw [t5 44 (by decide)]; exact h44) (by rw [t5 43 (by decide)]; exact h43) rfl trivial
                rw [t3, ob_s, if_neg (by decide)]
                rfl
    · rw [if_neg (show ¬ nI (tMem l).length = (2 : Int32) from fun e => h2 ((nI_eq (a := (tMem l).length) (b := 2) (by omega) (by decide)).mp e))]
      have e9 : aDefine w l (gProcs G) = .error 3 := by
        unfold aDefine
        split
        · next p q hpq => rw [hpq] at h2; exact absurd rfl h2
        · rfl
      rw [e9]
      exact err3 _ rfl
  · rw [if_neg (show ¬ nI (aLex w) = nI 0 from fun e => h0 ((nI_eq (by omega) (by omega)).mp e))]
    have e9 : aDefine w l (gProcs G) = .error 3 := by
      unfold aDefine
      split
      · rw [if_neg (fun h => h0 h.1)]
      · rfl
    rw [e9]
    exact err3 _ rfl
theorem h_otherWord {n : Nat} {g : Nat → Nat} {i : Nat → Int32} {a : Nat → Nat → Int32} {T : Nat} {G : GS} {N : LN} {F : List Fr} {L : List Lv} {vs : List Tr} {code : Nat} {v u : Tr} (hn : 300000 ≤ n) (h : INP g i a T G N F L vs) (h1 : 50 ≤ code) (h2 : code ≤ 59) (hv : vs.getD 0 .nil = v) (hu : vs.getD 1 .nil = u) (hl : vs.length = (aKind code).length) (hf : aFits (aKind code) vs = true) : TK n g T (m_Deeds_otherWord n g i a (nI code)) (aOther code v u G N F L) := by
  obtain ⟨x0, q1, _⟩ := h_input (n := n) (k := 0) h (by decide)
  obtain ⟨y0, q3, _⟩ := h_input (n := n) (k := 1) h (by decide)
  have hI := h
  obtain ⟨hc, hl9, hg, hNn, h44, h43, h46, hroom, hvs⟩ := h
  obtain ⟨a1, a2, a3, a4, a5, a6, a7, a8, a9⟩ := hc.1
  have in0 : ∀ c, (aKind code)[0]? = some c → cV (a 0) T v none x0 ∧ aFit1 c v = true := by
    intro c hc9
    obtain ⟨x, p1, p2, p3, p4⟩ := h_in (n := n) hI hl hf hv hc9 (by decide)
    rw [q1] at p1
    cases p1
    exact ⟨p2, p3⟩
  have in1 : ∀ c, (aKind code)[1]? = some c → cV (a 0) T u none y0 ∧ aFit1 c u = true := by
    intro c hc9
    obtain ⟨x, p1, p2, p3, p4⟩ := h_in (n := n) hI hl hf hu hc9 (by decide)
    rw [q3] at p1
    cases p1
    exact ⟨p2, p3⟩
  have val : ∀ (r : Rs) (y : Int32) (o : Option ((Nat → Int32) × (Nat → Nat → Int32) × Int32)), o = some (i, a, y) → gV (a 0) T r y → rsOk r → TK n g T o (aTake G N F L r) := fun r y o ho hy hr => TK_gv ho (by omega) hc hl9 h44 h43 hy hr
  unfold m_Deeds_otherWord
  rw [show (0 : Int32) = nI 0 from rfl, show (1 : Int32) = nI 1 from rfl, q1, ob0_s, q3, ob0_s]
  rcases (by omega : code = 50 ∨ code = 51 ∨ code = 52 ∨ code = 53 ∨ code = 54 ∨ code = 55 ∨ code = 56 ∨ code = 57 ∨ code = 58 ∨ code = 59) with rfl | rfl | rfl | rfl | rfl | rfl | rfl | rfl | rfl | rfl
  · obtain ⟨p1, p2⟩ := in0 119 rfl
    rw [isW_eq p1 p2] at p1
    obtain ⟨r1, r2⟩ := in1 118 rfl
    rw [if_pos (show nI 50 = (50 : Int32) from rfl)]
    show TK n g T _ (aOther 50 v u G N F L)
    unfold aOther
    simp only [Nat.reduceEqDiff, if_true, if_false]
    exact TK_pass (h_make (by omega) hc hl9 hg h44 h43 p1 r1)
  · obtain ⟨p1, p2⟩ := in0 119 rfl
    rw [isW_eq p1 p2] at p1
    rw [if_neg (show ¬ nI 51 = (50 : Int32) by decide), if_pos (show nI 51 = (51 : Int32) from rfl)]
    show TK n g T _ (aOther 51 v u G N F L)
    unfold aOther
    simp only [Nat.reduceEqDiff, if_true, if_false]
    exact TK_pass (h_local (by omega) hc hl9 h44 h43 p1)
  · obtain ⟨p1, p2⟩ := in0 119 rfl
    rw [isW_eq p1 p2] at p1
    obtain ⟨y, s1, s2⟩ := h_nfind (n := n) (by omega) hc hl9.2.2.2.2.2.2 p1
    rw [if_neg (show ¬ nI 52 = (50 : Int32) by decide), if_neg (show ¬ nI 52 = (51 : Int32) by decide), if_pos (show nI 52 = (52 : Int32) from rfl), s1, ob0_s]
    show TK n g T _ (aOther 52 v u G N F L)
    unfold aOther
    simp only [Nat.reduceEqDiff, if_true, if_false]
    cases hq : aFind F (gGlob G) (tLet v) with
    | none =>
      rw [hq] at s2
      exact val (.error 2) _ _ rfl s2 ⟨by decide, by decide⟩
    | some t =>
      rw [hq] at s2
      exact val (.ok (some t)) _ _ rfl s2 trivial
  · obtain ⟨p1, p2⟩ := in0 119 rfl
    rw [isW_eq p1 p2] at p1
    obtain ⟨y, s1, s2⟩ := h_nfind (n := n) (by omega) hc hl9.2.2.2.2.2.2 p1
    rw [if_neg (show ¬ nI 53 = (50 : Int32) by decide), if_neg (show ¬ nI 53 = (51 : Int32) by decide), if_neg (show ¬ nI 53 = (52 : Int32) by decide), if_pos (show nI 53 = (53 : Int32) from rfl), s1, ob0_s]
    show TK n g T _ (aOther 53 v u G N F L)
    unfold aOther
    simp only [Nat.reduceEqDiff, if_true, if_false]
    cases hq : aFind F (gGlob G) (tLet v) with
    | none =>
      rw [hq] at s2
      have s2 : y = -nI 2147483646 := s2
      rw [s2, if_pos (show -nI 2147483646 = (-2147483646 : Int32) from rfl)]
      obtain ⟨z, t1, t2⟩ := h_truth (n := n) (b := false) hc
      have t1 : m_Heap_truth n g i a (nI 0) = some z := t1
      rw [t1, ob0_s]
      exact val _ _ _ rfl t2 trivial
    | some t =>
      rw [hq] at s2
      have s2 : cV (a 0) T t none y := s2
      have hne : ¬ y = (-2147483646 : Int32) := by
        intro e
        have := cV_ne (by omega) s2
        rw [e] at this
        exact absurd this (by decide)
      rw [if_neg hne]
      obtain ⟨z, t1, t2⟩ := h_truth (n := n) (b := true) hc
      have t1 : m_Heap_truth n g i a (nI 1) = some z := t1
      rw [t1, ob0_s]
      exact val _ _ _ rfl t2 trivial
  · obtain ⟨p1, p2⟩ := in0 119 rfl
    rw [isW_eq p1 p2] at p1
    obtain ⟨r1, r2⟩ := in1 108 rfl
    rw [if_neg (show ¬ nI 54 = (50 : Int32) by decide), if_neg (show ¬ nI 54 = (51 : Int32) by decide), if_neg (show ¬ nI 54 = (52 : Int32) by decide), if_neg (show ¬ nI 54 = (53 : Int32) by decide), if_pos (show nI 54 = (54 : Int32) from rfl)]
    show TK n g T _ (aOther 54 v u G N F L)
    unfold aOther
    simp only [Nat.reduceEqDiff, if_true, if_false]
    exact TK_pass (h_define (by omega) hc hl9 h44 h43 p1 r1 r2)
  · obtain ⟨p1, p2⟩ := in0 119 rfl
    rw [isW_eq p1 p2] at p1
    rw [if_neg (show ¬ nI 55 = (50 : Int32) by decide), if_neg (show ¬ nI 55 = (51 : Int32) by decide), if_neg (show ¬ nI 55 = (52 : Int32) by decide), if_neg (show ¬ nI 55 = (53 : Int32) by decide), if_neg (show ¬ nI 55 = (54 : Int32) by decide), if_pos (show nI 55 = (55 : Int32) from rfl)]
    show TK n g T _ (aOther 55 v u G N F L)
    unfold aOther
    simp only [Nat.reduceEqDiff, if_true, if_false]
    unfold m_Deeds_arity
    rcases h_find (n := n) (by omega) hc p1 with ⟨s1, s2⟩ | ⟨q, hq, s1, s2, s3⟩
    · rw [s1, s2, ob0_s, if_neg (by decide), show (-1 : Int32) = Int32.ofInt (-1) from by decide, h_num rfl, ob0_s, ob0_s]
      exact val (.ok (some (tN (-1)))) _ _ rfl (cV_num (by decide) (by decide)) trivial
    · have b2 := hc.2.1.2.1
      have hcnt := h_count (n := n) (i := i) a3 a5 (b2.2.2 q hq).2.1
      rw [tMem_tL, List.length_map] at hcnt
      have h5 := (hg.2.2.1 _ (List.getElem_mem hq)).1
      have bl := b2.2.1
      rw [s1, s2, ob0_s, if_pos (show (0 : Int32) ≤ nI q from nI_pos' (by omega)), ck_n (by omega), cl_n (by omega), hcnt, ob0_s, h_num (nI_ofInt _), ob0_s, ob0_s]
      dsimp only
      rw [List.getElem?_eq_getElem hq]
      exact val (.ok (some (tN ((gProcs G)[q].2.1.length : Int)))) _ _ rfl (cV_num (by omega) (by omega)) trivial
  · obtain ⟨p1, p2⟩ := in0 119 rfl
    rw [isW_eq p1 p2] at p1
    rw [if_neg (show ¬ nI 56 = (50 : Int32) by decide), if_neg (show ¬ nI 56 = (51 : Int32) by decide), if_neg (show ¬ nI 56 = (52 : Int32) by decide), if_neg (show ¬ nI 56 = (53 : Int32) by decide), if_neg (show ¬ nI 56 = (54 : Int32) by decide), if_neg (show ¬ nI 56 = (55 : Int32) by decide), if_pos (show nI 56 = (56 : Int32) from rfl)]
    show TK n g T _ (aOther 56 v u G N F L)
    unfold aOther
    simp only [Nat.reduceEqDiff, if_true, if_false]
    unfold m_Deeds_text
    rcases h_find (n := n) (by omega) hc p1 with ⟨s1, s2⟩ | ⟨q, hq, s1, s2, s3⟩
    · rw [s1, s2, ob0_s, if_neg (by decide), ob0_s]
      exact val (.error 1) _ _ rfl rfl ⟨by decide, by decide⟩
    · have b2 := hc.2.1.2.1
      have bl := b2.2.1
      rw [s1, s2, ob0_s, if_pos (show (0 : Int32) ≤ nI q from nI_pos' (by omega)), ck_n (by omega), cl_n (by omega), ob0_s]
      dsimp only
      rw [List.getElem?_eq_getElem hq]
      exact val (.ok (some (gProcs G)[q].2.2)) _ _ rfl (b2.2.2 q hq).2.2 trivial
  · obtain ⟨p1, p2⟩ := in0 118 rfl
    rw [if_neg (show ¬ nI 57 = (50 : Int32) by decide), if_neg (show ¬ nI 57 = (51 : Int32) by decide), if_neg (show ¬ nI 57 = (52 : Int32) by decide), if_neg (show ¬ nI 57 = (53 : Int32) by decide), if_neg (show ¬ nI 57 = (54 : Int32) by decide), if_neg (show ¬ nI 57 = (55 : Int32) by decide), if_neg (show ¬ nI 57 = (56 : Int32) by decide), if_pos (show nI 57 = (57 : Int32) from rfl)]
    show TK n g T _ (aOther 57 v u G N F L)
    unfold aOther
    simp only [Nat.reduceEqDiff, if_true, if_false]
    exact TK_pass (h_write (bare := true) (ends := true) hn hc hl9 h44 h43 p1)
  · obtain ⟨p1, p2⟩ := in0 118 rfl
    rw [if_neg (show ¬ nI 58 = (50 : Int32) by decide), if_neg (show ¬ nI 58 = (51 : Int32) by decide), if_neg (show ¬ nI 58 = (52 : Int32) by decide), if_neg (show ¬ nI 58 = (53 : Int32) by decide), if_neg (show ¬ nI 58 = (54 : Int32) by decide), if_neg (show ¬ nI 58 = (55 : Int32) by decide), if_neg (show ¬ nI 58 = (56 : Int32) by decide), if_neg (show ¬ nI 58 = (57 : Int32) by decide), if_pos (show nI 58 = (58 : Int32) from rfl)]
    show TK n g T _ (aOther 58 v u G N F L)
    unfold aOther
    simp only [Nat.reduceEqDiff, if_true, if_false]
    exact TK_pass (h_write (bare := false) (ends := true) hn hc hl9 h44 h43 p1)
  · obtain ⟨p1, p2⟩ := in0 118 rfl
    rw [if_neg (show ¬ nI 59 = (50 : Int32) by decide), if_neg (show ¬ nI 59 = (51 : Int32) by decide), if_neg (show ¬ nI 59 = (52 : Int32) by decide), if_neg (show ¬ nI 59 = (53 : Int32) by decide), if_neg (show ¬ nI 59 = (54 : Int32) by decide), if_neg (show ¬ nI 59 = (55 : Int32) by decide), if_neg (show ¬ nI 59 = (56 : Int32) by decide), if_neg (show ¬ nI 59 = (57 : Int32) by decide), if_neg (show ¬ nI 59 = (58 : Int32) by decide), if_pos (show nI 59 = (59 : Int32) from rfl)]
    show TK n g T _ (aOther 59 v u G N F L)
    unfold aOther
    simp only [Nat.reduceEqDiff, if_true, if_false]
    exact TK_pass (h_write (bare := true) (ends := false) hn hc hl9 h44 h43 p1)

