/-! behind what an E has got -/
theorem wsVals_le : ∀ ws : List Wt, (∀ w ∈ ws, wOk w ∧ (wVals w).length < wNeed w) → wsVals ws ≤ 4 * ws.length := by
  intro ws
  induction ws with
  | nil => intro _; exact Nat.le_refl _
  | cons w ws ih =>
    intro h
    have h1 := h w List.mem_cons_self
    have h2 := ih (fun w hw => h w (List.mem_cons_of_mem _ hw))
    have := h1.1.1
    have := h1.2
    rw [wsVals]
    simp only [List.length_cons]
    omega
theorem lvVals_le : ∀ L : List Lv, (∀ l ∈ L, lOk l) → lvVals L ≤ mapVals L + 4 * lvWaits L := by
  intro L
  induction L with
  | nil => intro _; exact Nat.le_refl _
  | cons l L ih =>
    intro h
    have h1 := h l List.mem_cons_self
    have h2 := ih (fun w hw => h w (List.mem_cons_of_mem _ hw))
    have h3 := wsVals_le (lWs l) h1.2.2.2.2.2.2.2.2.2.2.2.2.2.2
    rw [lvVals, mapVals, lvWaits]
    omega
theorem vals_room {F : List Fr} {L : List Lv} {N : LN} (hl : lvOk F L (nMade N)) (hN : nOk N) : lvVals L ≤ 31600 := by
  have h1 := lvVals_le L hl.1
  have h2 := hl.2.2.2.1
  have h3 := hl.2.2.1
  have h4 := hN.2.2.2.1
  omega
theorem lev_d {n : Nat} {g : Nat → Nat} {i : Nat → Int32} {a : Nat → Nat → Int32} {T : Nat} {G : GS} {N : LN} {F : List Fr} {l : Lv} {R : List Lv} (h : CI g i a T G N F (l :: R)) (hl : lvOk F (l :: R) (nMade N)) : i 40 - nI 1 = nI R.length ∧ R.length < 150 := by
  have hL := hl.2.1
  simp only [List.length_cons] at hL
  have h40 := h.2.2.2.2.1
  exact ⟨by rw [h40, show (l :: R).length = R.length + 1 from rfl, sub_n (by omega), show R.length + 1 - 1 = R.length by omega], by omega⟩
theorem lev_1 {g : Nat → Nat} {i : Nat → Int32} {a : Nat → Nat → Int32} {T : Nat} {G : GS} {N : LN} {F : List Fr} {l : Lv} {R : List Lv} (h : CI g i a T G N F (l :: R)) : lv1 (a 0) T (a 37) (a 38) (a 39) (a 40) (a 41) (a 42) (a 43) (a 44) (a 45) (a 46) (a 47) (a 48) (a 49) (a 50) (a 51) (a 52) (a 53) (a 54) R.length (lvWaits R) (lvVals R) l := by
  have hlv := h.2.2.2.2.2.2.2
  rw [lvR] at hlv
  exact hlv.1
/-- the next member -/
theorem lev_mem {n : Nat} {g : Nat → Nat} {i : Nat → Int32} {a : Nat → Nat → Int32} {T : Nat} {G : GS} {N : LN} {F : List Fr} {l : Lv} {R : List Lv} (h : CI g i a T G N F (l :: R)) (hl : lvOk F (l :: R) (nMade N)) : ∃ x, m_Heap_member n g i a (a 38 R.length) (a 39 R.length) = some x ∧ oV (a 0) T ((tMem (lLst l))[lNx l]?) x := by
  obtain ⟨a1, a2, a3, a4, a5, a6, a7, a8, a9⟩ := h.1
  have hlo := hl.1 l List.mem_cons_self
  obtain ⟨l1, l2, l3, l4, l5, l6, l7, l8, l9, l10, l11, l12⟩ := lev_1 h
  rw [isL_eq l2 hlo.2.1] at l2
  have hnx := hlo.2.2.1
  have hcnt : (tMem (lLst l)).length ≤ 600 := by
    obtain ⟨p, _, q, _⟩ := cV_tL.mp l2
    exact q.2.2.1
  rcases Nat.lt_or_ge (lNx l) (tMem (lLst l)).length with hk | hk
  · obtain ⟨x, q1, q2⟩ := h_member (n := n) (i := i) a3 a5 l2 hk
    rw [List.getElem?_eq_getElem hk, l3]
    exact ⟨x, q1, q2⟩
  · have q1 := h_member_no (n := n) (i := i) a3 a5 l2 hk (by omega)
    rw [List.getElem?_eq_none hk, l3]
    exact ⟨_, q1, rfl⟩
theorem cV_cnt {f : Nat → Int32} {T : Nat} {t : Tr} {v : Int32} (h : cV f T t none v) (hw : isL t = true) : (tMem t).length ≤ 600 := by
  have e := isL_eq h hw
  rw [e] at h
  obtain ⟨p, _, q, _⟩ := cV_tL.mp h
  exact q.2.2.1
theorem vsR_snoc {f : Nat → Int32} {T : Nat} {vl : Nat → Int32} {b : Nat} {vs : List Tr} {v : Tr} (h : vsR f T vl b vs) (hv : cV f T v none (vl (b + vs.length))) : vsR f T vl b (vs ++ [v]) := by
  intro k hk
  rw [List.length_append, List.length_singleton] at hk
  rcases Nat.lt_or_ge k vs.length with h9 | h9
  · rw [List.getElem_append_left h9]
    exact h k h9
  · obtain rfl : k = vs.length := by omega
    rw [List.getElem_append_right (Nat.le_refl _)]
    simp
    exact hv
theorem no_word (n : Nat) : m_Heap_isWord n (-nI 2147483648) = some (nI 0) := by
  unfold m_Heap_isWord
  simp only [i32_lit]
  rw [if_neg (by decide)]
def sgR (o : Option Nat) : Int32 := match o with
  | none => -nI 1
  | some s => nI s
theorem h_signAhead {n : Nat} {g : Nat → Nat} {i : Nat → Int32} {a : Nat → Nat → Int32} {T : Nat} {G : GS} {N : LN} {F : List Fr} {l : Lv} {R : List Lv} (hn : 2000 ≤ n) (h : CI g i a T G N F (l :: R)) (hl : lvOk F (l :: R) (nMade N)) : m_Machine_signAhead n g i a (nI R.length) = some (sgR (aSign l)) := by
  obtain ⟨a1, a2, a3, a4, a5, a6, a7, a8, a9⟩ := h.1
  obtain ⟨d1, d2⟩ := lev_d (n := n) h hl
  obtain ⟨x, q1, q2⟩ := lev_mem (n := n) h hl
  unfold m_Machine_signAhead aSign
  cases hm : (tMem (lLst l))[lNx l]? with
  | none =>
    rw [hm] at q2
    have q2 : x = -nI 2147483648 := q2
    subst q2
    simp (disch := omega) only [ob_s, ob0_s, ob1_s, i32_lit, ile_p, ile_n, ilt_p, ilt_n, ieq_p, ieq_n, ck_n, cl_n, sub_n, nI_add, sh_w, sh_l, an3_w, an3_l, an1_w, an1_l, hN_1, hN_3w, hN_3l, if_true, if_false, q1, no_word, m_Machine_signAhead_b45]
    rfl
  | some m =>
    rw [hm] at q2
    have q2 : cV (a 0) T m none x := q2
    obtain ⟨kw, _, _⟩ := cV_kinds (by omega) q2 n
    cases hw : isW m with
    | false =>
      simp (disch := omega) only [ob_s, ob0_s, ob1_s, i32_lit, ile_p, ile_n, ilt_p, ilt_n, ieq_p, ieq_n, ck_n, cl_n, sub_n, nI_add, sh_w, sh_l, an3_w, an3_l, an1_w, an1_l, hN_1, hN_3w, hN_3l, if_true, if_false, q1, kw, hw, b1_f, m_Machine_signAhead_b45]
      rw [if_neg (by simp)]
      rfl
    | true =>
      rw [isW_eq q2 hw] at q2
      have em := h_meaning (n := n) (i := i) a3 a5 a6 (by omega) q2
      have hlt := aLex_lt (tLet m)
      simp (disch := omega) only [ob_s, ob0_s, ob1_s, i32_lit, ile_p, ile_n, ilt_p, ilt_n, ieq_p, ieq_n, ck_n, cl_n, sub_n, nI_add, sh_w, sh_l, an3_w, an3_l, an1_w, an1_l, hN_1, hN_3w, hN_3l, if_true, if_false, q1, kw, hw, b1_t, em, m_Machine_signAhead_b45]
      rcases Nat.lt_or_ge (aLex (tLet m)) 77 with e | e
      · rw [if_neg (show ¬ (True ∧ 77 ≤ aLex (tLet m) ∧ aLex (tLet m) ≤ 83) by omega)]
        simp (disch := omega) only [ob_s, ob0_s, ob1_s, i32_lit, ile_p, ile_n, ilt_p, ilt_n, ieq_p, ieq_n, ck_n, cl_n, sub_n, nI_add, sh_w, sh_l, an3_w, an3_l, an1_w, an1_l, hN_1, hN_3w, hN_3l, if_true, if_false]
        rfl
      · rcases Nat.lt_or_ge 83 (aLex (tLet m)) with e2 | e2
        · rw [if_neg (show ¬ (True ∧ 77 ≤ aLex (tLet m) ∧ aLex (tLet m) ≤ 83) by omega)]
          simp (disch := omega) only [ob_s, ob0_s, ob1_s, i32_lit, ile_p, ile_n, ilt_p, ilt_n, ieq_p, ieq_n, ck_n, cl_n, sub_n, nI_add, sh_w, sh_l, an3_w, an3_l, an1_w, an1_l, hN_1, hN_3w, hN_3l, if_true, if_false]
          rfl
        · rw [if_pos (show True ∧ 77 ≤ aLex (tLet m) ∧ aLex (tLet m) ≤ 83 from ⟨trivial, by omega, by omega⟩)]
          simp (disch := omega) only [ob_s, ob0_s, ob1_s, i32_lit, ile_p, ile_n, ilt_p, ilt_n, ieq_p, ieq_n, ck_n, cl_n, sub_n, nI_add, sh_w, sh_l, an3_w, an3_l, an1_w, an1_l, hN_1, hN_3w, hN_3l, if_true, if_false]
          rfl
theorem aSign_lt {l : Lv} {s : Nat} (h : aSign l = some s) : s < 7 ∧ lNx l < (tMem (lLst l)).length := by
  unfold aSign at h
  cases hm : (tMem (lLst l))[lNx l]? with
  | none => rw [hm] at h; cases h
  | some m =>
    rw [hm] at h
    have hlt : lNx l < (tMem (lLst l)).length := by
      rcases Nat.lt_or_ge (lNx l) (tMem (lLst l)).length with h9 | h9
      · exact h9
      · rw [List.getElem?_eq_none h9] at hm; cases hm
    have h : (if isW m = true ∧ 77 ≤ aLex (tLet m) ∧ aLex (tLet m) ≤ 83 then some (aLex (tLet m) - 77) else none) = some s := h
    split at h
    · cases h; exact ⟨by omega, hlt⟩
    · cases h
theorem st_facts {s : Nat} (h : s < 7) : tw_st 1 s = nI (aStrength s) ∧ tw_st 0 s = nI (aSignWord s) ∧ aStrength s ≤ 3 ∧ aSignWord s ≤ 74 := by
  rcases (by omega : s = 0 ∨ s = 1 ∨ s = 2 ∨ s = 3 ∨ s = 4 ∨ s = 5 ∨ s = 6) with rfl | rfl | rfl | rfl | rfl | rfl | rfl <;> decide
theorem lOk_next {F : List Fr} {l : Lv} {R : List Lv} {made q : Nat} (hl : lvOk F (l :: R) made) (hq : q ≤ (tMem (lLst l)).length) : lvOk F (lSetNx l q :: R) made := by
  obtain ⟨c1, c2, c3, c4, c5, c6, c7⟩ := hl
  refine ⟨fun x hx => ?_, c2, c3, c4, c5, c6, c7⟩
  rcases List.mem_cons.mp hx with rfl | hx
  · obtain ⟨o1, o2, o3, o4⟩ := c1 l List.mem_cons_self
    exact ⟨o1, o2, hq, o4⟩
  · exact c1 x (List.mem_cons_of_mem _ hx)
theorem CI_next {n : Nat} {g : Nat → Nat} {i : Nat → Int32} {a : Nat → Nat → Int32} {T : Nat} {G : GS} {N : LN} {F : List Fr} {l : Lv} {R : List Lv} {q : Nat} (h : CI g i a T G N F (l :: R)) : CI g i (sv a 39 R.length (nI q)) T G N F (lSetNx l q :: R) := by
  obtain ⟨b1, b2, b3, b4, b5, b6, b7, b8⟩ := h
  exact ⟨b1, b2, b3, b4, b5, b6, b7, lev_next b8⟩
/-- one more value -/
theorem CI_put {g : Nat → Nat} {i : Nat → Int32} {a : Nat → Nat → Int32} {T : Nat} {G : GS} {N : LN} {F : List Fr} {L : List Lv} {x : Int32} {v : Nat} (h : CI g i a T G N F L) : CI g (upd i 43 (nI v)) (sv a 54 (lvVals L) x) T G N F L := by
  obtain ⟨b1, b2, b3, b4, b5, b6, b7, b8⟩ := h
  refine ⟨b1, b2, b3, b4, b5, b6, b7, ?_⟩
  exact lvR_keep (Nat.le_refl _) (fun _ _ => rfl) L F agL_refl agW_refl (fun k hk => upd_ne (by omega)) b8
theorem h_put {n : Nat} {g : Nat → Nat} {i : Nat → Int32} {a : Nat → Nat → Int32} {v : Nat} {x : Int32} (h43 : i 43 = nI v) (hv : v < 32000) : m_Waiting_put n g i a x = some (upd i 43 (nI (v + 1)), sv a 54 v x, nI 0) := by
  unfold m_Waiting_put
  simp (disch := omega) only [ob_s, ob0_s, ob1_s, i32_lit, ile_p, ile_n, ilt_p, ilt_n, ieq_p, ieq_n, ck_n, cl_n, sub_n, nI_add, sh_w, sh_l, an3_w, an3_l, an1_w, an1_l, hN_1, hN_3w, hN_3l, if_true, if_false, h43]
theorem h_meetSign {n : Nat} {g : Nat → Nat} {i : Nat → Int32} {a : Nat → Nat → Int32} {T : Nat} {G : GS} {N : LN} {F : List Fr} {l : Lv} {R : List Lv} {s : Nat} {got : Option Tr} (hn : 2000 ≤ n) (h : CI g i a T G N F (l :: R)) (hl : lvOk F (l :: R) (nMade N)) (hN : nOk N) (h44 : i 44 = nI 0) (h43 : i 43 = nI (lvVals (l :: R))) (hgot : oV (a 0) T got (i 47)) (hs : aSign l = some s) : TK n g T (m_Machine_meetSign n g i a (nI s) (nI R.length)) (aMeetSign G N F l R got s) := by
  obtain ⟨a1, a2, a3, a4, a5, a6, a7, a8, a9⟩ := h.1
  obtain ⟨d1, d2⟩ := lev_d (n := n) h hl
  obtain ⟨s1, s2⟩ := aSign_lt hs
  obtain ⟨t1, t2, t3, t4⟩ := st_facts s1
  have hroom := vals_room hl hN
  obtain ⟨l1, l2, l3, l4⟩ := lev_1 h
  unfold m_Machine_meetSign aMeetSign
  cases got with
  | none =>
    have hgot : i 47 = -nI 2147483648 := hgot
    refine TK_er (e := 4) (i := i) (a := a) ?_ (by omega) h hl h44 (by decide) (by decide)
    simp (disch := omega) only [ob_s, ob0_s, ob1_s, i32_lit, ile_p, ile_n, ilt_p, ilt_n, ieq_p, ieq_n, ck_n, cl_n, sub_n, nI_add, sh_w, sh_l, an3_w, an3_l, an1_w, an1_l, hN_1, hN_3w, hN_3l, if_true, if_false, hgot]
  | some v =>
    have hgot : cV (a 0) T v none (i 47) := hgot
    have no := cV_no (by omega) hgot
    have hnx := (hl.1 l List.mem_cons_self).2.2.1
    have hci := CI_next (n := n) (q := lNx l + 1) h
    have hl2 := lOk_next (q := lNx l + 1) hl (by omega)
    obtain ⟨a', m1, m2, m3, m4, m5, m6⟩ := h_meet (n := n) (kind := 1) (code := aSignWord s) (need := 2) (str := aStrength s) hci hl2.2.2.1 h43
    have hp := h_put (n := n) (g := g) (i := upd i 46 (nI 0)) (a := a') (x := i 47) (v := lvVals (lSetNx l (lNx l + 1) :: R)) h43 (by have : lvVals (lSetNx l (lNx l + 1) :: R) = lvVals (l :: R) := rfl; omega)
    have hci2 := CI_put (i := upd i 46 (nI 0)) (x := i 47) (v := lvVals (lSetNx l (lNx l + 1) :: R) + 1) m2
    have hrow : wtR (a' 0) T (a' 47) (a' 48) (a' 49) (a' 50) (a' 51) (a' 52) (a' 53) (upd (a' 54) (lvVals (lSetNx l (lNx l + 1) :: R)) (i 47)) (lvWaits (lSetNx l (lNx l + 1) :: R)) (lvVals (lSetNx l (lNx l + 1) :: R)) (1, aSignWord s, 2, aStrength s, [v], [], .nil) := by
      refine ⟨m6.1, m6.2.1, m6.2.2.1, m6.2.2.2.1, m6.2.2.2.2, fun e => absurd e (show (1 : Nat) ≠ 2 by decide), fun k hk => ?_⟩
      have hk : k < 1 := hk
      obtain rfl : k = 0 := by omega
      show cV (a' 0) T v none (upd (a' 54) (lvVals (lSetNx l (lNx l + 1) :: R)) (i 47) (lvVals (lSetNx l (lNx l + 1) :: R)))
      rw [upd_at, m3]
      exact hgot
    obtain ⟨i', a9, y, i2, k1, k2, k3⟩ := h_settleLast (n := n) (w := (1, aSignWord s, 2, aStrength s, [v], [], .nil)) (by omega) hci2 hl2 (by simp) rfl h44 rfl hrow (show (1 : Nat) ≤ 4 by decide) (show (2 : Nat) ≤ 5 by decide)
    refine ⟨i', a9, y, i2, ?_, k2, k3⟩
    have e47 : upd i 46 (nI 0) 47 = i 47 := rfl
    simp (disch := omega) only [ob_s, ob0_s, ob1_s, i32_lit, ile_p, ile_n, ilt_p, ilt_n, ieq_p, ieq_n, ck_n, cl_n, sub_n, nI_add, sh_w, sh_l, an3_w, an3_l, an1_w, an1_l, hN_1, hN_3w, hN_3l, if_true, if_false, no, l3, t1, t2, m1, e47, hp, k1]
theorem lev_pop {f : Nat → Int32} {T : Nat} {k1 k2 k3 k4 k5 k6 k7 k8 k9 k10 w1 w2 w3 w4 w5 w6 w7 w8 : Nat → Int32} {l : Lv} {R : List Lv} {F : List Fr} {w : Wt} {ws : List Wt} (h : lvR f T k1 k2 k3 k4 k5 k6 k7 k8 k9 k10 w1 w2 w3 w4 w5 w6 w7 w8 (l :: R) F) (hw : lWs l = w :: ws) : lvR f T k1 k2 k3 k4 k5 k6 k7 k8 k9 k10 w1 w2 w3 w4 w5 w6 w7 w8 (lSetWs l ws :: R) F ∧ wtR f T w1 w2 w3 w4 w5 w6 w7 w8 (lvWaits (lSetWs l ws :: R)) (lvVals (lSetWs l ws :: R)) w := by
  rw [lvR] at h
  obtain ⟨⟨l1, l2, l3, l4, l5, l6, l7, l8, l9, l10, l11, l12⟩, h2⟩ := h
  rw [hw, wsR] at l12
  constructor
  · rw [lvR]
    exact ⟨⟨l1, l2, l3, l4, l5, l6, l7, l8, l9, l10, l11, l12.2⟩, h2⟩
  · have := l12.1
    show wtR f T w1 w2 w3 w4 w5 w6 w7 w8 (ws.length + lvWaits R) ((lVals l).length + wsVals ws + lvVals R) w
    rw [show ws.length + lvWaits R = lvWaits R + ws.length by omega, show (lVals l).length + wsVals ws + lvVals R = lvVals R + (lVals l).length + wsVals ws by omega]
    exact this
theorem lOk_ws {F : List Fr} {l : Lv} {R : List Lv} {made : Nat} {w : Wt} {ws : List Wt} (hl : lvOk F (l :: R) made) (hw : lWs l = w :: ws) : lvOk F (lSetWs l ws :: R) made := by
  obtain ⟨c1, c2, c3, c4, c5, c6, c7⟩ := hl
  refine ⟨fun x hx => ?_, c2, ?_, c4, c5, c6, c7⟩
  · rcases List.mem_cons.mp hx with rfl | hx
    · obtain ⟨o1, o2, o3, o4, o5, o6, o7, o8, o9, o10, o11, o12, o13, o14, o15⟩ := c1 l List.mem_cons_self
      exact ⟨o1, o2, o3, o4, o5, o6, o7, o8, o9, o10, o11, o12, o13, o14, fun w' hw' => o15 w' (by rw [hw]; exact List.mem_cons_of_mem _ hw')⟩
    · exact c1 x (List.mem_cons_of_mem _ hx)
  · have e : lvWaits (l :: R) = (lWs l).length + lvWaits R := rfl
    rw [e, hw] at c3
    simp only [List.length_cons] at c3
    show ws.length + lvWaits R ≤ 400
    omega
theorem h_close {n : Nat} {g : Nat → Nat} {i : Nat → Int32} {a : Nat → Nat → Int32} {T : Nat} {G : GS} {N : LN} {F : List Fr} {l : Lv} {R : List Lv} {w : Wt} {ws : List Wt} {got : Option Tr} (hn : 2000 ≤ n) (h : CI g i a T G N F (l :: R)) (hl : lvOk F (l :: R) (nMade N)) (h46 : i 46 = nI 1) (h44 : i 44 = nI 0) (h43 : i 43 = nI (lvVals (l :: R))) (hgot : oV (a 0) T got (i 47)) (hw : lWs l = w :: ws) (hv : wVals w = []) : TK n g T (m_Machine_closeParen n g i a (nI R.length) (nI (ws.length + lvWaits R))) (aClose G N F l R got ws) := by
  obtain ⟨a1, a2, a3, a4, a5, a6, a7, a8, a9⟩ := h.1
  obtain ⟨d1, d2⟩ := lev_d (n := n) h hl
  obtain ⟨x, q1, q2⟩ := lev_mem (n := n) h hl
  obtain ⟨l1, l2, l3, l4⟩ := lev_1 h
  unfold m_Machine_closeParen aClose
  cases hm : (tMem (lLst l))[lNx l]? with
  | none =>
    rw [hm] at q2
    have q2 : x = -nI 2147483648 := q2
    subst q2
    refine TK_er (e := 4) (i := i) (a := a) ?_ (by omega) h hl h44 (by decide) (by decide)
    simp (disch := omega) only [ob_s, ob0_s, ob1_s, i32_lit, ile_p, ile_n, ilt_p, ilt_n, ieq_p, ieq_n, ck_n, cl_n, sub_n, nI_add, sh_w, sh_l, an3_w, an3_l, an1_w, an1_l, hN_1, hN_3w, hN_3l, if_true, if_false, q1, no_word]
  | some m =>
    rw [hm] at q2
    have q2 : cV (a 0) T m none x := q2
    have hlt : lNx l < (tMem (lLst l)).length := by
      rcases Nat.lt_or_ge (lNx l) (tMem (lLst l)).length with h9 | h9
      · exact h9
      · rw [List.getElem?_eq_none h9] at hm; cases hm
    obtain ⟨kw, _, _⟩ := cV_kinds (by omega) q2 n
    show TK n g T _ (if isW m = true ∧ aLex (tLet m) = 76 then _ else _)
    cases hw9 : isW m with
    | false =>
      rw [if_neg (by simp)]
      refine TK_er (e := 4) (i := i) (a := a) ?_ (by omega) h hl h44 (by decide) (by decide)
      simp (disch := omega) only [ob_s, ob0_s, ob1_s, i32_lit, ile_p, ile_n, ilt_p, ilt_n, ieq_p, ieq_n, ck_n, cl_n, sub_n, nI_add, sh_w, sh_l, an3_w, an3_l, an1_w, an1_l, hN_1, hN_3w, hN_3l, if_true, if_false, q1, kw, hw9, b1_f]
    | true =>
      rw [isW_eq q2 hw9] at q2
      have em := h_meaning (n := n) (i := i) a3 a5 a6 (by omega) q2
      have hlt9 := aLex_lt (tLet m)
      rcases Classical.em (aLex (tLet m) = 76) with e | e
      · rw [if_pos ⟨rfl, e⟩]
        have hci := CI_next (n := n) (q := lNx l + 1) h
        obtain ⟨b1, b2, b3, b4, b5, b6, b7, b8⟩ := hci
        obtain ⟨p1, p2⟩ := lev_pop b8 (show lWs (lSetNx l (lNx l + 1)) = w :: ws from hw)
        refine TK_el (i := upd i 42 (nI (ws.length + lvWaits R))) (a := sv a 39 R.length (nI (lNx l + 1))) ?_ (CR_1 ⟨b1, b2, b3, b4, b5, b6, rfl, p1⟩ h46 h44 ?_ hgot)
        · rw [l3] at q1
          simp (disch := omega) only [ob_s, ob0_s, ob1_s, i32_lit, ile_p, ile_n, ilt_p, ilt_n, ieq_p, ieq_n, ck_n, cl_n, sub_n, nI_add, sh_w, sh_l, an3_w, an3_l, an1_w, an1_l, hN_1, hN_3w, hN_3l, if_true, if_false, l3, q1, kw, hw9, b1_t, em, e]
        · show i 43 = nI ((lVals l).length + wsVals ws + lvVals R)
          rw [h43]
          congr 1
          show (lVals l).length + wsVals (lWs l) + lvVals R = _
          rw [hw, wsVals, hv]
          simp
      · rw [if_neg (fun q => e q.2)]
        refine TK_er (e := 4) (i := i) (a := a) ?_ (by omega) h hl h44 (by decide) (by decide)
        simp (disch := omega) only [ob_s, ob0_s, ob1_s, i32_lit, ile_p, ile_n, ilt_p, ilt_n, ieq_p, ieq_n, ck_n, cl_n, sub_n, nI_add, sh_w, sh_l, an3_w, an3_l, an1_w, an1_l, hN_1, hN_3w, hN_3l, if_true, if_false, q1, kw, hw9, b1_t, em]
theorem h_supply {n : Nat} {g : Nat → Nat} {i : Nat → Int32} {a : Nat → Nat → Int32} {T : Nat} {G : GS} {N : LN} {F : List Fr} {l : Lv} {R : List Lv} {w : Wt} {ws : List Wt} {v : Tr} (hn : 2000 ≤ n) (h : CI g i a T G N F (l :: R)) (hl : lvOk F (l :: R) (nMade N)) (hN : nOk N) (h44 : i 44 = nI 0) (h46 : i 46 = nI 0) (h43 : i 43 = nI (lvVals (l :: R))) (hgot : cV (a 0) T v none (i 47)) (hw : lWs l = w :: ws) : ∃ i' a', m_Waiting_supply n g i a (i 47) = some (i', a', nI 0) ∧ CR g i' a' T (aSupply G N F l R w ws v) := by
  have hroom := vals_room hl hN
  have hW := hl.2.2.1
  have ewt : lvWaits (l :: R) = ws.length + 1 + lvWaits R := by rw [lvWaits, hw]; rfl
  have evl : lvVals (l :: R) = (lVals l).length + ((wVals w).length + wsVals ws) + lvVals R := by rw [lvVals, hw, wsVals]
  have hp := h_put (n := n) (g := g) (i := i) (a := a) (x := i 47) h43 (by omega)
  have hci := CI_put (x := i 47) (v := lvVals (l :: R) + 1) h
  obtain ⟨b1, b2, b3, b4, b5, b6, b7, b8⟩ := hci
  obtain ⟨p1, p2⟩ := lev_pop b8 hw
  have h42 : i 42 = nI (ws.length + 1 + lvWaits R) := by rw [← ewt]; exact h.2.2.2.2.2.2.1
  have hwo := ((hl.1 l List.mem_cons_self).2.2.2.2.2.2.2.2.2.2.2.2.2.2 w (by rw [hw]; exact List.mem_cons_self))
  have ew : lvWaits (lSetWs l ws :: R) = ws.length + lvWaits R := rfl
  have ev : lvVals (lSetWs l ws :: R) = (lVals l).length + wsVals ws + lvVals R := rfl
  obtain ⟨r1, r2, r3, r4, r5, r6, r7⟩ := p2
  rw [ev] at r7
  rw [ew] at r1 r2 r3 r4 r5 r6
  rw [ev] at r5
  have r1 : a 47 (ws.length + lvWaits R) = nI (wK w) := r1
  have r3 : a 49 (ws.length + lvWaits R) = nI (wNeed w) := r3
  have r5 : a 51 (ws.length + lvWaits R) = nI ((lVals l).length + wsVals ws + lvVals R) := r5
  have hrow : wtR (a 0) T (a 47) (a 48) (a 49) (a 50) (a 51) (a 52) (a 53) (upd (a 54) (lvVals (l :: R)) (i 47)) (ws.length + lvWaits R) ((lVals l).length + wsVals ws + lvVals R) (wK w, wCode w, wNeed w, wStr w, wVals w ++ [v], wNames w, wBody w) := by
    refine ⟨r1, r2, r3, r4, r5, r6, ?_⟩
    refine vsR_snoc r7 ?_
    have e9 : (lVals l).length + wsVals ws + lvVals R + (wVals w).length = lvVals (l :: R) := by omega
    rw [e9]
    show cV (a 0) T v none (upd (a 54) (lvVals (l :: R)) (i 47) (lvVals (l :: R)))
    rw [upd_at]
    exact hgot
  unfold m_Waiting_supply aSupply
  dsimp only
  have hd1 := hwo.1.1
  have hd2 := hwo.2
  rcases Nat.lt_or_ge ((wVals w).length + 1) (wNeed w) with hlt | hge
  · rw [if_neg (by omega)]
    refine ⟨upd i 43 (nI (lvVals (l :: R) + 1)), sv a 54 (lvVals (l :: R)) (i 47), ?_, CR_0 ⟨b1, b2, b3, b4, b5, b6, ?_, lev_push p1 ?_⟩ h46 h44 ?_⟩
    · have e1 : upd i 43 (nI (lvVals (l :: R) + 1)) 42 = i 42 := rfl
      have e2 : upd i 43 (nI (lvVals (l :: R) + 1)) 43 = nI (lvVals (l :: R) + 1) := rfl
      have e3 : sv a 54 (lvVals (l :: R)) (i 47) 51 = a 51 := rfl
      have e4 : sv a 54 (lvVals (l :: R)) (i 47) 49 = a 49 := rfl
      have e9 : lvVals (l :: R) + 1 - ((lVals l).length + wsVals ws + lvVals R) = (wVals w).length + 1 := by omega
      simp (disch := omega) only [ob_s, ob0_s, ob1_s, i32_lit, ile_p, ile_n, ilt_p, ilt_n, ieq_p, ieq_n, ck_n, cl_n, sub_n, nI_add, sh_w, sh_l, an3_w, an3_l, an1_w, an1_l, hN_1, hN_3w, hN_3l, if_true, if_false, hp, e1, e2, e3, e4, h42, r5, r3, show ws.length + 1 + lvWaits R - 1 = ws.length + lvWaits R by omega]
    · show i 42 = nI ((ws.length + 1) + lvWaits R)
      exact h42
    · exact hrow
    · show nI (lvVals (l :: R) + 1) = nI ((lVals l).length + ((wVals w ++ [v]).length + wsVals ws) + lvVals R)
      congr 1
      rw [List.length_append, List.length_singleton]
      omega
  · rw [if_pos (by omega)]
    refine ⟨upd (upd (upd i 43 (nI (lvVals (l :: R) + 1))) 42 (nI (ws.length + lvWaits R))) 44 (nI (wK w)), sv a 54 (lvVals (l :: R)) (i 47), ?_, CR_3 ⟨b1, b2, b3, b4, b5, b6, rfl, p1⟩ rfl ?_ hrow⟩
    · have e1 : upd i 43 (nI (lvVals (l :: R) + 1)) 42 = i 42 := rfl
      have e2 : upd i 43 (nI (lvVals (l :: R) + 1)) 43 = nI (lvVals (l :: R) + 1) := rfl
      have e3 : sv a 54 (lvVals (l :: R)) (i 47) 51 = a 51 := rfl
      have e4 : sv a 54 (lvVals (l :: R)) (i 47) 49 = a 49 := rfl
      have e5 : sv a 54 (lvVals (l :: R)) (i 47) 47 = a 47 := rfl
      simp (disch := omega) only [ob_s, ob0_s, ob1_s, i32_lit, ile_p, ile_n, ilt_p, ilt_n, ieq_p, ieq_n, ck_n, cl_n, sub_n, nI_add, sh_w, sh_l, an3_w, an3_l, an1_w, an1_l, hN_1, hN_3w, hN_3l, if_true, if_false, hp, e1, e2, e3, e4, e5, h42, r5, r3, r1, show ws.length + 1 + lvWaits R - 1 = ws.length + lvWaits R by omega]
    · show nI (lvVals (l :: R) + 1) = nI ((lVals l).length + wsVals ws + lvVals R + (wVals w ++ [v]).length)
      congr 1
      rw [List.length_append, List.length_singleton]
      omega
theorem h_whole {n : Nat} {g : Nat → Nat} {i : Nat → Int32} {a : Nat → Nat → Int32} {T : Nat} {G : GS} {N : LN} {F : List Fr} {l : Lv} {R : List Lv} {got : Option Tr} (hn : 2000 ≤ n) (h : CI g i a T G N F (l :: R)) (hl : lvOk F (l :: R) (nMade N)) (h46 : i 46 = nI 1) (h44 : i 44 = nI 0) (h43 : i 43 = nI (lvVals (l :: R))) (hgot : oV (a 0) T got (i 47)) : TK n g T (m_Machine_settleWhole n g i a (nI R.length)) (aSettleWhole G N F l R got) := by
  obtain ⟨a1, a2, a3, a4, a5, a6, a7, a8, a9⟩ := h.1
  obtain ⟨d1, d2⟩ := lev_d (n := n) h hl
  obtain ⟨l1, l2, l3, l4⟩ := lev_1 h
  have hlo := hl.1 l List.mem_cons_self
  have hnx := hlo.2.2.1
  have hk10 := hlo.1
  have hc := h_count (n := n) (i := i) a3 a5 l2
  have hcnt : (tMem (lLst l)).length ≤ 600 := cV_cnt l2 hlo.2.1
  unfold m_Machine_settleWhole aSettleWhole
  cases got with
  | none =>
    have hgot : i 47 = -nI 2147483648 := hgot
    refine TK_el (i := upd i 46 (nI 0)) (a := a) ?_ (CR_0 h rfl h44 h43)
    simp (disch := omega) only [ob_s, ob0_s, ob1_s, i32_lit, ile_p, ile_n, ilt_p, ilt_n, ieq_p, ieq_n, ck_n, cl_n, sub_n, nI_add, sh_w, sh_l, an3_w, an3_l, an1_w, an1_l, hN_1, hN_3w, hN_3l, if_true, if_false, hgot]
  | some v =>
    have no := cV_no (by omega) (show cV (a 0) T v none (i 47) from hgot)
    show TK n g T _ (if lK l < 6 ∨ lNx l < (tMem (lLst l)).length then _ else _)
    rcases Classical.em (lK l < 6 ∨ lNx l < (tMem (lLst l)).length) with hh | hh
    · rw [if_pos hh]
      refine TK_er (e := 5) (i := i) (a := a) ?_ (by omega) h hl h44 (by decide) (by decide)
      rcases Nat.lt_or_ge (lNx l) (tMem (lLst l)).length with h9 | h9
      · rcases Nat.lt_or_ge (lK l) 6 with h8 | h8
        · simp (disch := omega) only [ob_s, ob0_s, ob1_s, i32_lit, ile_p, ile_n, ilt_p, ilt_n, ieq_p, ieq_n, ck_n, cl_n, sub_n, nI_add, sh_w, sh_l, an3_w, an3_l, an1_w, an1_l, hN_1, hN_3w, hN_3l, if_true, if_false, no, l3, hc, m_Machine_settleWhole_b50, l1]
        · simp (disch := omega) only [ob_s, ob0_s, ob1_s, i32_lit, ile_p, ile_n, ilt_p, ilt_n, ieq_p, ieq_n, ck_n, cl_n, sub_n, nI_add, sh_w, sh_l, an3_w, an3_l, an1_w, an1_l, hN_1, hN_3w, hN_3l, if_true, if_false, no, l3, hc, m_Machine_settleWhole_b50, l1]
      · rcases hh with h8 | h8
        · simp (disch := omega) only [ob_s, ob0_s, ob1_s, i32_lit, ile_p, ile_n, ilt_p, ilt_n, ieq_p, ieq_n, ck_n, cl_n, sub_n, nI_add, sh_w, sh_l, an3_w, an3_l, an1_w, an1_l, hN_1, hN_3w, hN_3l, if_true, if_false, no, l3, hc, m_Machine_settleWhole_b50, l1]
        · omega
    · rw [if_neg hh]
      have h8 : 6 ≤ lK l := by omega
      have h9 : (tMem (lLst l)).length ≤ lNx l := by omega
      refine TK_el (i := upd (upd i 46 (nI 2)) 47 (i 47)) (a := a) ?_ (CR_2 h rfl h44 h43 hgot)
      simp (disch := omega) only [ob_s, ob0_s, ob1_s, i32_lit, ile_p, ile_n, ilt_p, ilt_n, ieq_p, ieq_n, ck_n, cl_n, sub_n, nI_add, sh_w, sh_l, an3_w, an3_l, an1_w, an1_l, hN_1, hN_3w, hN_3l, if_true, if_false, no, l3, hc, m_Machine_settleWhole_b50, l1, m_Machine_finishGiving]
theorem h_b96 {n : Nat} {g : Nat → Nat} {i : Nat → Int32} {a : Nat → Nat → Int32} {T : Nat} {G : GS} {N : LN} {F : List Fr} {l : Lv} {R : List Lv} {got : Option Tr} (hn : 2000 ≤ n) (h : CI g i a T G N F (l :: R)) (hl : lvOk F (l :: R) (nMade N)) (hN : nOk N) (h46 : i 46 = nI 1) (h44 : i 44 = nI 0) (h43 : i 43 = nI (lvVals (l :: R))) (hgot : oV (a 0) T got (i 47)) : (lWs l = [] → ∀ y, TK n g T (m_Machine_settle_b96 n g i a (nI R.length) y (nI 0)) (aInner G N F l R got)) ∧ (∀ w ws, lWs l = w :: ws → TK n g T (m_Machine_settle_b96 n g i a (nI R.length) (nI (ws.length + lvWaits R)) (nI 1)) (aInner G N F l R got)) := by
  constructor
  · intro hw y
    unfold m_Machine_settle_b96 aInner
    rw [hw]
    obtain ⟨i', a9, z, i2, k1, k2, k3⟩ := h_whole hn h hl h46 h44 h43 hgot
    refine ⟨i', a9, z, i2, ?_, k2, k3⟩
    simp (disch := omega) only [ob_s, ob0_s, ob1_s, i32_lit, ile_p, ile_n, ilt_p, ilt_n, ieq_p, ieq_n, ck_n, cl_n, sub_n, nI_add, sh_w, sh_l, an3_w, an3_l, an1_w, an1_l, hN_1, hN_3w, hN_3l, if_true, if_false, k1]
  · intro w ws hw
    have hW := hl.2.2.1
    have ewt : lvWaits (l :: R) = ws.length + 1 + lvWaits R := by rw [lvWaits, hw]; rfl
    have hlv := h.2.2.2.2.2.2.2
    obtain ⟨p1, p2⟩ := lev_pop hlv hw
    have e47 : a 47 (ws.length + lvWaits R) = nI (wK w) := p2.1
    have hwo := ((hl.1 l List.mem_cons_self).2.2.2.2.2.2.2.2.2.2.2.2.2.2 w (by rw [hw]; exact List.mem_cons_self))
    have hwk : wK w ≤ 4 := by rcases hwo.1.2.2.2.1 with e | e | e <;> omega
    unfold m_Machine_settle_b96 aInner
    rw [hw]
    dsimp only
    rcases Classical.em (wK w = 4) with h4 | h4
    · rw [if_pos h4]
      have hv : wVals w = [] := List.length_eq_zero_iff.mp (by have := hwo.1.2.2.2.2.2.2.2 h4; have := hwo.2; omega)
      obtain ⟨i', a9, z, i2, k1, k2, k3⟩ := h_close hn h hl h46 h44 h43 hgot hw hv
      refine ⟨i', a9, z, i2, ?_, k2, k3⟩
      simp (disch := omega) only [ob_s, ob0_s, ob1_s, i32_lit, ile_p, ile_n, ilt_p, ilt_n, ieq_p, ieq_n, ck_n, cl_n, sub_n, nI_add, sh_w, sh_l, an3_w, an3_l, an1_w, an1_l, hN_1, hN_3w, hN_3l, if_true, if_false, e47, h4, k1]
    · rw [if_neg h4]
      cases got with
      | none =>
        have hgot : i 47 = -nI 2147483648 := hgot
        refine TK_er (e := 4) (i := i) (a := a) ?_ (by omega) h hl h44 (by decide) (by decide)
        simp (disch := omega) only [ob_s, ob0_s, ob1_s, i32_lit, ile_p, ile_n, ilt_p, ilt_n, ieq_p, ieq_n, ck_n, cl_n, sub_n, nI_add, sh_w, sh_l, an3_w, an3_l, an1_w, an1_l, hN_1, hN_3w, hN_3l, if_true, if_false, e47, hgot]
      | some v =>
        have hgot : cV (a 0) T v none (i 47) := hgot
        have no := cV_no (by have := h.1.2.2.1; have := h.1.2.2.2.2.1; omega) hgot
        obtain ⟨i', a', q1, q2⟩ := h_supply (n := n) (i := upd i 46 (nI 0)) hn h hl hN h44 rfl h43 hgot hw
        refine TK_el (i := i') (a := a') ?_ q2
        have e9 : upd i 46 (nI 0) 47 = i 47 := rfl
        rw [e9] at q1
        simp (disch := omega) only [ob_s, ob0_s, ob1_s, i32_lit, ile_p, ile_n, ilt_p, ilt_n, ieq_p, ieq_n, ck_n, cl_n, sub_n, nI_add, sh_w, sh_l, an3_w, an3_l, an1_w, an1_l, hN_1, hN_3w, hN_3l, if_true, if_false, e47, no, e9, q1]
theorem h_settle {n : Nat} {g : Nat → Nat} {i : Nat → Int32} {a : Nat → Nat → Int32} {T : Nat} {G : GS} {N : LN} {F : List Fr} {l : Lv} {R : List Lv} {got : Option Tr} (hn : 2000 ≤ n) (h : CI g i a T G N F (l :: R)) (hl : lvOk F (l :: R) (nMade N)) (hN : nOk N) (h46 : i 46 = nI 1) (h44 : i 44 = nI 0) (h43 : i 43 = nI (lvVals (l :: R))) (hgot : oV (a 0) T got (i 47)) : TK n g T (m_Machine_settle n g i a) (aSettle G N F l R got) := by
  obtain ⟨d1, d2⟩ := lev_d (n := n) h hl
  obtain ⟨l1, l2, l3, l4, l5, l6, l7, l8, l9, l10⟩ := lev_1 h
  obtain ⟨b1, b2⟩ := h_b96 hn h hl hN h46 h44 h43 hgot
  have hsa := h_signAhead hn h hl
  have h42 := h.2.2.2.2.2.2.1
  have hW := hl.2.2.1
  unfold m_Machine_settle aSettle
  cases hw : lWs l with
  | nil =>
    have ewt : lvWaits (l :: R) = lvWaits R := by rw [lvWaits, hw]; simp
    rw [ewt] at h42 hW
    have hlt : (i 42 - nI 1) < nI (lvWaits R) := by
      rw [h42, Int32.lt_iff_toInt_lt, pk_sub_toInt (by omega) (by omega), nI_toInt (by omega)]
      omega
    have b1 := b1 hw
    cases hs : aSign l with
    | none =>
      rw [hs] at hsa
      obtain ⟨i', a9, z, i2, k1, k2, k3⟩ := b1 (i 42 - nI 1)
      refine ⟨i', a9, z, i2, ?_, k2, k3⟩
      have e : sgR none = -nI 1 := rfl
      simp (disch := omega) only [ob_s, ob0_s, ob1_s, i32_lit, ile_p, ile_n, ilt_p, ilt_n, ieq_p, ieq_n, ck_n, cl_n, sub_n, nI_add, sh_w, sh_l, an3_w, an3_l, an1_w, an1_l, hN_1, hN_3w, hN_3l, if_true, if_false, d1, l9, hlt, m_Machine_settle_b48, m_Machine_settle_b49, hsa, e]
      rw [if_pos (by decide)]
      exact k1
    | some s =>
      rw [hs] at hsa
      obtain ⟨s1, s2⟩ := aSign_lt hs
      obtain ⟨t1, t2, t3, t4⟩ := st_facts s1
      have e : sgR (some s) = nI s := rfl
      have hst : 0 < aStrength s := by
        rcases (by omega : s = 0 ∨ s = 1 ∨ s = 2 ∨ s = 3 ∨ s = 4 ∨ s = 5 ∨ s = 6) with rfl | rfl | rfl | rfl | rfl | rfl | rfl <;> decide
      show TK n g T _ (if wsStr [] < aStrength s then _ else _)
      rw [if_pos (show wsStr [] < aStrength s from hst)]
      obtain ⟨i', a9, z, i2, k1, k2, k3⟩ := h_meetSign hn h hl hN h44 h43 hgot hs
      refine ⟨i', a9, z, i2, ?_, k2, k3⟩
      simp (disch := omega) only [ob_s, ob0_s, ob1_s, i32_lit, ile_p, ile_n, ilt_p, ilt_n, ieq_p, ieq_n, ck_n, cl_n, sub_n, nI_add, sh_w, sh_l, an3_w, an3_l, an1_w, an1_l, hN_1, hN_3w, hN_3l, if_true, if_false, d1, l9, hlt, m_Machine_settle_b48, m_Machine_settle_b49, hsa, e, m_Machine_settle_b85, t1, k1]
  | cons w ws =>
    have ewt : lvWaits (l :: R) = ws.length + 1 + lvWaits R := by rw [lvWaits, hw]; rfl
    rw [ewt] at h42 hW
    have e42 : i 42 - nI 1 = nI (ws.length + lvWaits R) := by rw [h42, sub_n (by omega), show ws.length + 1 + lvWaits R - 1 = ws.length + lvWaits R by omega]
    have b2 := b2 w ws hw
    have hlv := h.2.2.2.2.2.2.2
    obtain ⟨p1, p2⟩ := lev_pop hlv hw
    have e50 : a 50 (ws.length + lvWaits R) = nI (wStr w) := p2.2.2.2.1
    have hwo := ((hl.1 l List.mem_cons_self).2.2.2.2.2.2.2.2.2.2.2.2.2.2 w (by rw [hw]; exact List.mem_cons_self))
    have hstr := hwo.1.2.2.1
    cases hs : aSign l with
    | none =>
      rw [hs] at hsa
      obtain ⟨i', a9, z, i2, k1, k2, k3⟩ := b2
      refine ⟨i', a9, z, i2, ?_, k2, k3⟩
      have e : sgR none = -nI 1 := rfl
      simp (disch := omega) only [ob_s, ob0_s, ob1_s, i32_lit, ile_p, ile_n, ilt_p, ilt_n, ieq_p, ieq_n, ck_n, cl_n, sub_n, nI_add, sh_w, sh_l, an3_w, an3_l, an1_w, an1_l, hN_1, hN_3w, hN_3l, if_true, if_false, d1, l9, e42, m_Machine_settle_b49, hsa, e]
      rw [if_pos (by decide)]
      exact k1
    | some s =>
      rw [hs] at hsa
      obtain ⟨s1, s2⟩ := aSign_lt hs
      obtain ⟨t1, t2, t3, t4⟩ := st_facts s1
      have e : sgR (some s) = nI s := rfl
      show TK n g T _ (if wsStr (w :: ws) < aStrength s then _ else _)
      have ewS : wsStr (w :: ws) = wStr w := rfl
      rw [ewS]
      rcases Nat.lt_or_ge (wStr w) (aStrength s) with h9 | h9
      · rw [if_pos h9]
        obtain ⟨i', a9, z, i2, k1, k2, k3⟩ := h_meetSign hn h hl hN h44 h43 hgot hs
        refine ⟨i', a9, z, i2, ?_, k2, k3⟩
        simp (disch := omega) only [ob_s, ob0_s, ob1_s, i32_lit, ile_p, ile_n, ilt_p, ilt_n, ieq_p, ieq_n, ck_n, cl_n, sub_n, nI_add, sh_w, sh_l, an3_w, an3_l, an1_w, an1_l, hN_1, hN_3w, hN_3l, if_true, if_false, d1, l9, e42, m_Machine_settle_b49, hsa, e, m_Machine_settle_b85, t1, e50, k1]
      · rw [if_neg (by omega)]
        obtain ⟨i', a9, z, i2, k1, k2, k3⟩ := b2
        refine ⟨i', a9, z, i2, ?_, k2, k3⟩
        simp (disch := omega) only [ob_s, ob0_s, ob1_s, i32_lit, ile_p, ile_n, ilt_p, ilt_n, ieq_p, ieq_n, ck_n, cl_n, sub_n, nI_add, sh_w, sh_l, an3_w, an3_l, an1_w, an1_l, hN_1, hN_3w, hN_3l, if_true, if_false, d1, l9, e42, m_Machine_settle_b49, hsa, e, m_Machine_settle_b85, t1, e50, k1]

