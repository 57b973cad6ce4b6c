/-! a list that has been run -/
def mapPot : List Lv → Nat
  | [] => 0
  | l :: L => (if lK l = 10 then 1 + (lVals l).length else 0) + mapPot L
def cMp (c : Cfg) : Nat := mapPot c.2.2.2.1
def cMd (c : Cfg) : Nat := nMade c.2.1
theorem mapPot_drop : ∀ (k : Nat) (L : List Lv), mapPot (L.drop k) ≤ mapPot L := by
  intro k
  induction k with
  | zero => intro L; exact Nat.le_refl _
  | succ k ih =>
    intro L
    cases L with
    | nil => exact Nat.le_refl _
    | cons l L =>
      show mapPot (L.drop k) ≤ _
      have := ih L
      rw [mapPot]
      omega
theorem aLeave_mp (k : Nat) (g : GS) (n : LN) (F : List Fr) (L : List Lv) (got : Option Tr) : cMp (aLeave k g n F L got) ≤ mapPot L ∧ cMd (aLeave k g n F L got) = nMade n := ⟨mapPot_drop k L, rfl⟩
theorem aFinish_mp (st e : Nat) (g : GS) (n : LN) (L : List Lv) : cMp (aFinish st e g n L) ≤ mapPot L ∧ cMd (aFinish st e g n L) = nMade n := ⟨Nat.zero_le _, rfl⟩
theorem aFail_mp (e : Nat) (g : GS) (n : LN) (F : List Fr) (L : List Lv) : cMp (aFail e g n F L) ≤ mapPot L ∧ cMd (aFail e g n F L) = nMade n := by
  unfold aFail
  split
  · exact aFinish_mp _ _ _ _ _
  · exact aLeave_mp _ _ _ _ _ _
theorem aTake_mp (g : GS) (n : LN) (F : List Fr) (L : List Lv) (r : Rs) : cMp (aTake g n F L r) ≤ mapPot L ∧ cMd (aTake g n F L r) = nMade n := by
  cases r with
  | ok v => exact ⟨Nat.le_refl _, rfl⟩
  | error e => exact aFail_mp _ _ _ _ _
theorem aSettleLast_mp (g : GS) (n : LN) (F : List Fr) (L : List Lv) (w : Wt) : cMp (aSettleLast g n F L w) ≤ mapPot L ∧ cMd (aSettleLast g n F L w) = nMade n := by
  unfold aSettleLast
  split
  · exact ⟨Nat.le_refl _, rfl⟩
  · split
    · exact aFail_mp _ _ _ _ _
    · cases L with
      | nil => exact ⟨Nat.le_refl _, rfl⟩
      | cons l R => exact ⟨Nat.le_refl _, rfl⟩
theorem aMeetW_mp (g : GS) (n : LN) (F : List Fr) (L : List Lv) (l : List Nat) : cMp (aMeetW g n F L l) ≤ mapPot L ∧ cMd (aMeetW g n F L l) = nMade n := by
  unfold aMeetW
  dsimp only
  repeat' split
  all_goals first | exact aTake_mp _ _ _ _ _ | exact aFail_mp _ _ _ _ _ | exact aSettleLast_mp _ _ _ _ _
theorem aMeet_mp (g : GS) (n : LN) (F : List Fr) (l : Lv) (R : List Lv) : cMp (aMeet g n F l R) ≤ mapPot (l :: R) ∧ cMd (aMeet g n F l R) = nMade n := by
  unfold aMeet
  repeat' split
  all_goals first | exact ⟨Nat.le_refl _, rfl⟩ | exact aFail_mp _ _ _ _ _ | exact aMeetW_mp _ _ _ _ _
theorem aInner_mp (g : GS) (n : LN) (F : List Fr) (l : Lv) (R : List Lv) (got : Option Tr) : cMp (aInner g n F l R got) ≤ mapPot (l :: R) ∧ cMd (aInner g n F l R got) = nMade n := by
  unfold aInner aSettleWhole aClose aSupply
  dsimp only
  repeat' split
  all_goals first | exact ⟨Nat.le_refl _, rfl⟩ | exact aFail_mp _ _ _ _ _
theorem aSettle_mp (g : GS) (n : LN) (F : List Fr) (l : Lv) (R : List Lv) (got : Option Tr) : cMp (aSettle g n F l R got) ≤ mapPot (l :: R) ∧ cMd (aSettle g n F l R got) = nMade n := by
  unfold aSettle aMeetSign
  repeat' split
  all_goals first | exact aInner_mp _ _ _ _ _ _ | exact aFail_mp _ _ _ _ _ | exact aSettleLast_mp _ _ _ _ _
/-- what a step gives, where the cells may grow -/
def TG (n : Nat) (g : Nat → Nat) (T T0 : Nat) (o : Option ((Nat → Int32) × (Nat → Nat → Int32) × (Nat → Nat) × (Nat × Nat) × Int32)) (c : Cfg) : Prop := ∃ i' a' g' k x i2 T', o = some (i', a', g', k, x) ∧ m_Machine_take n g' i' a' x = some (i2, a', nI 0) ∧ CR g' i2 a' T' c ∧ hGrow g g' k ∧ T ≤ T' ∧ T' + cMp c ≤ T0 + 3 * cMd c
theorem TG_of {n : Nat} {g : Nat → Nat} {T T0 : Nat} {o : Option ((Nat → Int32) × (Nat → Nat → Int32) × Int32)} {c : Cfg} {m md : Nat} (h : TK n g T o c) (hg : g 0 ≤ 340000) (hr : T + m ≤ T0 + 3 * md) (hm : cMp c ≤ m ∧ cMd c = md) : TG n g T T0 (ob o (fun i a r => some (i, a, g, (0, 0), r))) c := by
  obtain ⟨i', a', x, i2, e, h1, h2⟩ := h
  exact ⟨i', a', g, (0, 0), x, i2, T, by rw [e, ob_s], h1, h2, hGrow_refl hg, Nat.le_refl _, by rw [hm.2]; have := hm.1; omega⟩
theorem lvCalls_app : ∀ (k : Nat) (L : List Lv), lvCalls (L.take k) + lvCalls (L.drop k) = lvCalls L ∧ lvWaits (L.drop k) ≤ lvWaits L ∧ mapVals (L.drop k) ≤ mapVals L := by
  intro k
  induction k with
  | zero => intro L; exact ⟨by show lvCalls [] + lvCalls L = _; rw [lvCalls]; omega, Nat.le_refl _, Nat.le_refl _⟩
  | succ k ih =>
    intro L
    cases L with
    | nil => exact ⟨rfl, Nat.le_refl _, Nat.le_refl _⟩
    | cons l L =>
      obtain ⟨h1, h2, h3⟩ := ih L
      show lvCalls (l :: L.take k) + lvCalls (L.drop k) = lvCalls (l :: L) ∧ lvWaits (L.drop k) ≤ lvWaits (l :: L) ∧ mapVals (L.drop k) ≤ mapVals (l :: L)
      rw [lvCalls, lvCalls, lvWaits, mapVals]
      omega
theorem lvOk_leave {F : List Fr} {L : List Lv} {made : Nat} (h : lvOk F L made) (k : Nat) : lvOk (F.drop (lvCalls (L.take k))) (L.drop k) made := by
  obtain ⟨c1, c2, c3, c4, c5, c6, c7⟩ := h
  obtain ⟨e1, e2, e3⟩ := lvCalls_app k L
  refine ⟨fun l hl => c1 l (List.mem_of_mem_drop hl), by rw [List.length_drop]; omega, by omega, by omega, by rw [List.length_drop]; omega, fun f hf => c6 f (List.mem_of_mem_drop hf), fun f hf => c7 f (List.mem_of_mem_drop hf)⟩
theorem h_leaveG {n : Nat} {g : Nat → Nat} {i : Nat → Int32} {a : Nat → Nat → Int32} {T : Nat} {G : GS} {N : LN} {F : List Fr} {l : Lv} {R : List Lv} {got : Option Tr} {x : Int32} (hn : 2000 ≤ n) (h : CI g i a T G N F (l :: R)) (hl : lvOk F (l :: R) (nMade N)) (h44 : i 44 = nI 0) (hx : oV (a 0) T got x) : TK n g T (m_Machine_leaveGiving n g i a (nI R.length) x) (aLeave 1 G N F (l :: R) got) := by
  obtain ⟨i', q1, q2, q3, q4, q5⟩ := h_leave (n := n) (k := 1) (by omega) h hl.1 hl.2.1 (by simp)
  have hl2 := lvOk_leave hl 1
  have e44 : i' 44 = nI 0 := by rw [q2 44 (by decide) (by decide) (by decide) (by decide) (by decide) (by decide)]; exact h44
  have hg : gV (a 0) T (.ok got) x := by cases got <;> exact hx
  refine TK_gv (i := i') (a := a) (x := x) (r := .ok got) ?_ (by omega) q3 hl2 e44 (q5 (by omega)) hg trivial
  unfold m_Machine_leaveGiving
  rw [show (l :: R).length - 1 = R.length by simp] at q1
  rw [q1, ob_s]
theorem h_await {n : Nat} {g : Nat → Nat} {i : Nat → Int32} {a : Nat → Nat → Int32} {T : Nat} {G : GS} {N : LN} {F : List Fr} {l : Lv} {R : List Lv} (h : CI g i a T G N F (l :: R)) (h43 : i 43 = nI (lvVals (l :: R))) : TK n g T (m_Machine_awaitTurn n g i a) (G, N, F, l :: R, 4, none, none) := by
  refine TK_el (i := upd (upd i 46 (nI 0)) 44 (nI 3)) (a := a) ?_ (CR_4 h rfl h43)
  unfold m_Machine_awaitTurn
  simp only [i32_lit, ob1_s]
theorem h_change {n : Nat} {g : Nat → Nat} {i : Nat → Int32} {a : Nat → Nat → Int32} {T : Nat} {G : GS} {N : LN} {F : List Fr} {l : Lv} {R : List Lv} {q : Nat} (h : CI g i a T G N F (l :: R)) (hl : lvOk F (l :: R) (nMade N)) (h44 : i 44 = nI 0) (h43 : i 43 = nI (lvVals (l :: R))) (hk : (lK l = 9 ∧ q = 4) ∨ (lK l = 4 ∧ q = 9)) : TK n g T (m_Machine_changeLists n g i a (nI R.length) (nI q)) (G, N, F, aChange l q :: R, 0, none, none) := by
  obtain ⟨d1, d2⟩ := lev_d (n := n) h hl
  obtain ⟨b1, b2, b3, b4, b5, b6, b7, b8⟩ := h
  rw [lvR] at b8
  obtain ⟨⟨l1, l2, l3, l4, l5, l6, l7, l8, l9, l10, l11, l12⟩, h2⟩ := b8
  have k1 : ¬ lK l = 1 := by omega
  rw [if_neg k1] at h2
  refine TK_el (i := upd i 46 (nI 0)) (a := sv (sv (sv (sv a 38 R.length (a 42 R.length)) 42 R.length (a 38 R.length)) 37 R.length (nI q)) 39 R.length (nI 0)) ?_ (CR_0 ⟨b1, b2, b3, b4, b5, ?_, b7, ?_⟩ rfl h44 h43)
  · unfold m_Machine_changeLists
    simp (disch := omega) only [ob_s, ob0_s, ob1_s, i32_lit, ile_p, ile_n, ilt_p, ilt_n, ieq_p, ieq_n, ck_n, cl_n, sub_n, nI_add, sh_w, sh_l, an3_w, an3_l, an1_w, an1_l, hN_1, hN_3w, hN_3l, if_true, if_false]
  · show i 41 = nI (lvCalls (aChange l q :: R))
    rw [b6, lvCalls, lvCalls, if_neg k1, if_neg (show ¬ lK (aChange l q) = 1 by show ¬ q = 1; omega)]
  · rw [lvR, if_neg (show ¬ lK (aChange l q) = 1 by show ¬ q = 1; omega)]
    refine ⟨⟨upd_at, ?_, upd_at, l4, l5, fun _ => ?_, fun e => ?_, fun e => ?_, l9, l10, l11, l12⟩, ?_⟩
    · show cV (a 0) T (lOth l) none (upd (a 38) R.length (a 42 R.length) R.length)
      rw [upd_at]
      exact l6 (by omega)
    · show cV (a 0) T (lLst l) none (upd (a 42) R.length (a 38 R.length) R.length)
      rw [upd_at]
      exact l2
    · have e : q = 1 ∨ q = 7 := e
      omega
    · have e : q = 8 := e
      omega
    · exact lvR_keep (Nat.le_refl _) (fun _ _ => rfl) R F (fun d hd => ⟨upd_ne (by omega), upd_ne (by omega), upd_ne (by omega), rfl, rfl, upd_ne (by omega), rfl, rfl, rfl, rfl⟩) agW_refl (fun _ _ => rfl) h2
theorem h_test {n : Nat} {g : Nat → Nat} {i : Nat → Int32} {a : Nat → Nat → Int32} {T : Nat} {G : GS} {N : LN} {F : List Fr} {l : Lv} {R : List Lv} {got : Option Tr} (hn : 2000 ≤ n) (h : CI g i a T G N F (l :: R)) (hl : lvOk F (l :: R) (nMade N)) (h44 : i 44 = nI 0) (h43 : i 43 = nI (lvVals (l :: R))) (hgot : oV (a 0) T got (i 47)) (hk : lK l = 9) : TK n g T (m_Machine_finishTest n g i a (nI R.length) (i 47)) (aTest G N F l R got) := by
  obtain ⟨a1, a2, a3, a4, a5, a6, a7, a8, a9⟩ := h.1
  unfold m_Machine_finishTest aTest
  cases got with
  | none =>
    have hgot : i 47 = -nI 2147483648 := hgot
    refine TK_er (e := 4) (i := i) (a := a) ?_ (by omega) h hl h44 (by decide) (by decide)
    simp (disch := omega) only [ob_s, ob0_s, ob1_s, i32_lit, ile_p, ile_n, ilt_p, ilt_n, ieq_p, ieq_n, ck_n, cl_n, sub_n, nI_add, sh_w, sh_l, an3_w, an3_l, an1_w, an1_l, hN_1, hN_3w, hN_3l, if_true, if_false, hgot]
  | some v =>
    have hgot : cV (a 0) T v none (i 47) := hgot
    have no := cV_no (by omega) hgot
    obtain ⟨kw, _, _⟩ := cV_kinds (by omega) hgot n
    dsimp only
    cases hw : isW v with
    | false =>
      rw [if_pos rfl]
      refine TK_er (e := 3) (i := i) (a := a) ?_ (by omega) h hl h44 (by decide) (by decide)
      simp (disch := omega) only [ob_s, ob0_s, ob1_s, i32_lit, ile_p, ile_n, ilt_p, ilt_n, ieq_p, ieq_n, ck_n, cl_n, sub_n, nI_add, sh_w, sh_l, an3_w, an3_l, an1_w, an1_l, hN_1, hN_3w, hN_3l, if_true, if_false, no, kw, hw, b1_f]
    | true =>
      rw [if_neg (show ¬ true = false by decide)]
      have ev := isW_eq hgot hw
      rw [ev] at hgot
      have e1 := h_sameWord (n := n) (i := i) a3 a5 (by omega) hgot (cV_21 a7 a2.1)
      have e2 := h_sameWord (n := n) (i := i) a3 a5 (by omega) hgot (cV_21 a8 a2.1)
      rcases Classical.em (tLet v = wTrue) with ht | ht
      · rw [if_pos ht]
        obtain ⟨i', a9, z, i2, k1, k2, k3⟩ := h_change (n := n) (q := 4) h hl h44 h43 (Or.inl ⟨hk, rfl⟩)
        refine ⟨i', a9, z, i2, ?_, k2, k3⟩
        simp (disch := omega) only [ob_s, ob0_s, ob1_s, i32_lit, ile_p, ile_n, ilt_p, ilt_n, ieq_p, ieq_n, ck_n, cl_n, sub_n, nI_add, sh_w, sh_l, an3_w, an3_l, an1_w, an1_l, hN_1, hN_3w, hN_3l, if_true, if_false, no, kw, hw, b1_t, e1, ht, decide_true, k1]
      · rw [if_neg ht]
        rcases Classical.em (tLet v = wFalse) with hf | hf
        · rw [if_pos hf]
          obtain ⟨i', a9, z, i2, k1, k2, k3⟩ := h_leaveG (n := n) (got := none) (x := -nI 2147483648) hn h hl h44 rfl
          refine ⟨i', a9, z, i2, ?_, k2, k3⟩
          simp (disch := omega) only [ob_s, ob0_s, ob1_s, i32_lit, ile_p, ile_n, ilt_p, ilt_n, ieq_p, ieq_n, ck_n, cl_n, sub_n, nI_add, sh_w, sh_l, an3_w, an3_l, an1_w, an1_l, hN_1, hN_3w, hN_3l, if_true, if_false, no, kw, hw, b1_t, e1, ht, decide_false, b1_f, e2, decide_true, hf, k1, show ¬ wFalse = wTrue by decide]
        · rw [if_neg hf]
          refine TK_er (e := 3) (i := i) (a := a) ?_ (by omega) h hl h44 (by decide) (by decide)
          simp (disch := omega) only [ob_s, ob0_s, ob1_s, i32_lit, ile_p, ile_n, ilt_p, ilt_n, ieq_p, ieq_n, ck_n, cl_n, sub_n, nI_add, sh_w, sh_l, an3_w, an3_l, an1_w, an1_l, hN_1, hN_3w, hN_3l, if_true, if_false, no, kw, hw, b1_t, e1, ht, decide_false, b1_f, e2, hf]
theorem cV_sz {f : Nat → Int32} {T : Nat} {t : Tr} {v : Int32} (h : cV f T t none v) : 1 ≤ tSz t := by
  rcases cV_cases h with ⟨k, rfl, h1, h2, rfl⟩ | ⟨l, p, rfl, rfl, h3⟩ | ⟨ms, p, rfl, rfl, h3, h4⟩
  · exact Nat.le_refl _
  · rw [tSz_tW]
    rcases Nat.eq_zero_or_pos l.length with h9 | h9
    · exact absurd (List.length_eq_zero_iff.mp h9) h3.2.1
    · exact h9
  · rw [tSz_tL]; omega
theorem sum_ge : ∀ (vs : List Tr), (∀ v ∈ vs, 1 ≤ tSz v) → vs.length ≤ (vs.map tSz).sum := by
  intro vs
  induction vs with
  | nil => intro _; exact Nat.le_refl _
  | cons v vs ih =>
    intro h
    have h1 := h v List.mem_cons_self
    have h2 := ih (fun v hv => h v (List.mem_cons_of_mem _ hv))
    simp only [List.length_cons, List.map_cons, List.sum_cons]
    omega
theorem lev_map {f : Nat → Int32} {T : Nat} {k1 k2 k3 k4 k5 k6 k7 k8 k9 k10 w1 w2 w3 w4 w5 w6 w7 w8 : Nat → Int32} {l : Lv} {R : List Lv} {F : List Fr} {lim : Nat} {v : Tr} {x : Int32} (h : lvR f T k1 k2 k3 k4 k5 k6 k7 k8 k9 k10 w1 w2 w3 w4 w5 w6 w7 w8 (l :: R) F) (hw : lWs l = []) (hv : cV f T v none x) : lvR f T k1 k2 k3 k4 (upd k5 R.length (nI lim)) k6 k7 k8 k9 k10 w1 w2 w3 w4 w5 w6 w7 (upd w8 (lvVals (l :: R)) x) (lSetMap l lim (lVals l ++ [v]) :: R) F := by
  have ev : lvVals (l :: R) = lvVals R + (lVals l).length := by rw [lvVals, hw, wsVals]; omega
  rw [lvR] at h ⊢
  obtain ⟨⟨l1, l2, l3, l4, l5, l6, l7, l8, l9, l10, l11, l12⟩, h2⟩ := h
  refine ⟨⟨l1, l2, l3, l4, upd_at, l6, l7, l8, l9, l10, ?_, ?_⟩, ?_⟩
  · refine vsR_snoc (vsR_keep l11 (Nat.le_refl _) (fun _ _ => rfl) (fun k hk => upd_ne (by omega))) ?_
    rw [← ev, upd_at]
    exact hv
  · show wsR f T _ _ _ _ _ _ _ _ _ _ (lWs l)
    rw [hw]
    trivial
  · have ek : lK (lSetMap l lim (lVals l ++ [v])) = lK l := rfl
    have em : lMark (lSetMap l lim (lVals l ++ [v])) = lMark l := rfl
    rw [ek, em]
    have hag : agL R.length k1 k2 k3 k4 k5 k6 k7 k8 k9 k10 w1 w2 w3 w4 w5 w6 w7 w8 k1 k2 k3 k4 (upd k5 R.length (nI lim)) k6 k7 k8 k9 k10 := fun d hd => ⟨rfl, rfl, rfl, rfl, upd_ne (by omega), rfl, rfl, rfl, rfl, rfl⟩
    split at h2
    · next hk =>
      rw [if_pos hk]
      obtain ⟨fr, F', e1, e2, e3, e4⟩ := h2
      exact ⟨fr, F', e1, e2, e3, lvR_keep (Nat.le_refl _) (fun _ _ => rfl) R F' hag agW_refl (fun k hk => upd_ne (by omega)) e4⟩
    · next hk =>
      rw [if_neg hk]
      exact lvR_keep (Nat.le_refl _) (fun _ _ => rfl) R F hag agW_refl (fun k hk => upd_ne (by omega)) h2
theorem lOk_map {F : List Fr} {l : Lv} {R : List Lv} {N : LN} {v : Tr} (hl : lvOk F (l :: R) (nMade N)) (hk : lK l = 10) (hs : lLim l + tSz v ≤ 600) : lvOk F (lSetMap l (lLim l + tSz v) (lVals l ++ [v]) :: R) (nMade N + 1) := by
  obtain ⟨c1, c2, c3, c4, c5, c6, c7⟩ := hl
  refine ⟨fun x hx => ?_, c2, c3, ?_, c5, c6, c7⟩
  · rcases List.mem_cons.mp hx with rfl | hx
    · obtain ⟨o1, o2, o3, o4, o5, o6, o7, o8, o9, o10, o11, o12, o13, o14, o15⟩ := c1 l List.mem_cons_self
      refine ⟨o1, o2, o3, o4, o5, by show lLim l + tSz v ≤ _; omega, fun e => absurd (show lK l = 3 from e) (by omega), o8, o9, fun _ => ⟨hs, ?_⟩, fun e => absurd hk e, o12, o13, o14, o15⟩
      show tSz (tL (lVals l ++ [v])) = lLim l + tSz v
      rw [← (o10 hk).2, tSz_tL, tSz_tL, List.map_append, List.sum_append]
      simp
      omega
    · exact c1 x (List.mem_cons_of_mem _ hx)
  · show (lVals l ++ [v]).length + mapVals R ≤ _
    have : mapVals (l :: R) = (lVals l).length + mapVals R := rfl
    rw [List.length_append, List.length_singleton]
    omega
theorem lvOk_mono {F : List Fr} {L : List Lv} {m m' : Nat} (h : lvOk F L m) (hm : m ≤ m') : lvOk F L m' := ⟨h.1, h.2.1, h.2.2.1, Nat.le_trans h.2.2.2.1 hm, h.2.2.2.2⟩
theorem h_mapped {n : Nat} {g : Nat → Nat} {i : Nat → Int32} {a : Nat → Nat → Int32} {T : Nat} {G : GS} {N : LN} {F : List Fr} {l : Lv} {R : List Lv} {T0 : Nat} {got : Option Tr} (hn : 40000 ≤ n) (h : CI g i a T G N F (l :: R)) (hl : lvOk F (l :: R) (nMade N)) (hN : nOk N) (h44 : i 44 = nI 0) (h43 : i 43 = nI (lvVals (l :: R))) (hgot : oV (a 0) T got (i 47)) (hk : lK l = 10) (hw : lWs l = []) (hr : T + mapPot (l :: R) ≤ T0 + 3 * nMade N) (hT0 : T0 ≤ 250000) : TG n g T T0 (m_Machine_finishMapped n g i a (nI R.length) (i 47)) (aMapped G N F l R got) := by
  obtain ⟨a1, a2, a3, a4, a5, a6, a7, a8, a9⟩ := h.1
  obtain ⟨d1, d2⟩ := lev_d (n := n) h hl
  obtain ⟨l1, l2, l3, l4, l5, l6, l7, l8, l9, l10, l11, l12⟩ := lev_1 h
  have hlo := hl.1 l List.mem_cons_self
  have h38 := h.2.2.1.2.2.2.1
  have hmd := hN.2.2.2.1
  have hroom := vals_room hl hN
  have hlim := (hlo.2.2.2.2.2.2.2.2.2.1 hk).1
  have hev := (hlo.2.2.2.2.2.2.2.2.2.1 hk).2
  have ev : lvVals (l :: R) = lvVals R + (lVals l).length := by rw [lvVals, hw, wsVals]; omega
  have emp : mapPot (l :: R) = 1 + (lVals l).length + mapPot R := by rw [mapPot, if_pos hk]
  have err : ∀ e, 1 ≤ e → e ≤ 13 → ∀ o, o = some (i, a, g, ((0, 0) : Nat × Nat), -nI (2147483648 - e)) → TG n g T T0 o (aFail e G N F (l :: R)) := by
    intro e h1 h2 o ho
    obtain ⟨i', q1, q2⟩ := h_take_err (n := n) (by omega) h hl h44 h1 h2
    obtain ⟨m1, m2⟩ := aFail_mp e G N F (l :: R)
    exact ⟨i, a, g, (0, 0), _, i', T, ho, q1, q2, hGrow_refl a5, Nat.le_refl _, by rw [m2]; omega⟩
  unfold m_Machine_finishMapped aMapped
  cases got with
  | none =>
    have hgot : i 47 = -nI 2147483648 := hgot
    refine err 4 (by decide) (by decide) _ ?_
    simp (disch := omega) only [ob_s, ob0_s, ob1_s, i32_lit, ile_p, ile_n, ilt_p, ilt_n, ieq_p, ieq_n, ck_n, cl_n, sub_n, nI_add, sh_w, sh_l, an3_w, an3_l, an1_w, an1_l, hN_1, hN_3w, hN_3l, if_true, if_false, hgot]
  | some v =>
    have hgot : cV (a 0) T v none (i 47) := hgot
    have no := cV_no (by omega) hgot
    have hsz := h_size (n := n) (i := i) a3 a5 (by omega) hgot
    have hs1 := cV_sz hgot
    have hs2 : tSz v < 131072 := by
      rcases cV_cases hgot with ⟨k, rfl, _⟩ | ⟨l, p, rfl, _, h3⟩ | ⟨ms, p, rfl, _, h3, _⟩
      · show (1 : Nat) < 131072
        decide
      · rw [tSz_tW]; have := h3.2.2.1; omega
      · exact h3.2.2.2.1.1
    dsimp only
    rcases Classical.em (600 < lLim l + tSz v ∨ 30000 ≤ nMade N) with hbad | hok
    · rw [if_pos hbad]
      refine err 8 (by decide) (by decide) _ ?_
      rcases Nat.lt_or_ge 600 (lLim l + tSz v) with h9 | h9
      · simp (disch := omega) only [ob_s, ob0_s, ob1_s, i32_lit, ile_p, ile_n, ilt_p, ilt_n, ieq_p, ieq_n, ck_n, cl_n, sub_n, nI_add, sh_w, sh_l, an3_w, an3_l, an1_w, an1_l, hN_1, hN_3w, hN_3l, if_true, if_false, no, hsz, l5]
      · have h8 : 30000 ≤ nMade N := by omega
        simp (disch := omega) only [ob_s, ob0_s, ob1_s, i32_lit, ile_p, ile_n, ilt_p, ilt_n, ieq_p, ieq_n, ck_n, cl_n, sub_n, nI_add, sh_w, sh_l, an3_w, an3_l, an1_w, an1_l, hN_1, hN_3w, hN_3l, if_true, if_false, no, hsz, l5, h38]
    · rw [if_neg hok]
      have h6 : lLim l + tSz v ≤ 600 := by omega
      have h3 : nMade N < 30000 := by omega
      have hoth := l6 (by omega)
      have hol := hlo.2.2.2.2.2.2.2.2.1 (by omega)
      have hcnt := h_count (n := n) (g := g) (i := upd (upd i 38 (nI (nMade N + 1))) 43 (nI (lvVals (l :: R) + 1))) (a := sv (sv a 41 R.length (nI (lLim l + tSz v))) 54 (lvVals (l :: R)) (i 47)) a3 a5 (show cV (a 0) T (lOth l) none (a 42 R.length) from hoth)
      have hc6 := cV_cnt hoth hol
      have htl := hlo.2.2.2.2.2.2.2.1 (by omega)
      have hp := h_put (n := n) (g := g) (i := upd i 38 (nI (nMade N + 1))) (a := sv a 41 R.length (nI (lLim l + tSz v))) (x := i 47) (v := lvVals (l :: R)) h43 (by omega)
      obtain ⟨b1, b2, b3, b4, b5, b6, b7, b8⟩ := h
      have hci : CI g (upd (upd i 38 (nI (nMade N + 1))) 43 (nI (lvVals (l :: R) + 1))) (sv (sv a 41 R.length (nI (lLim l + tSz v))) 54 (lvVals (l :: R)) (i 47)) T G (nSetMade N (nMade N + 1)) F (lSetMap l (lLim l + tSz v) (lVals l ++ [v]) :: R) :=
        ⟨b1, b2, ⟨b3.1, b3.2.1, b3.2.2.1, rfl, b3.2.2.2.2⟩, b4, b5, b6, b7, lev_map b8 hw hgot⟩
      have hl2 := lOk_map hl hk h6
      have ev2 : lvVals (lSetMap l (lLim l + tSz v) (lVals l ++ [v]) :: R) = lvVals (l :: R) + 1 := by
        show (lVals l ++ [v]).length + wsVals (lWs l) + lvVals R = _
        rw [List.length_append, List.length_singleton, hw, wsVals, ev]
        omega
      have e40 : (sv (sv a 41 R.length (nI (lLim l + tSz v))) 54 (lvVals (l :: R)) (i 47)) 40 = a 40 := rfl
      have e42 : (sv (sv a 41 R.length (nI (lLim l + tSz v))) 54 (lvVals (l :: R)) (i 47)) 42 = a 42 := rfl
      have e45 : (sv (sv a 41 R.length (nI (lLim l + tSz v))) 54 (lvVals (l :: R)) (i 47)) 45 = a 45 := rfl
      have e38 : i 38 + nI 1 = nI (nMade N + 1) := by rw [h38]; exact nI_add _ _
      rcases Nat.lt_or_ge (lTurns l) (tMem (lOth l)).length with ht | ht
      · rw [if_pos ht]
        obtain ⟨i', a', z, i2, k1, k2, k3⟩ := h_await (n := n) hci (by rw [ev2]; rfl)
        refine ⟨i', a', g, (0, 0), z, i2, T, ?_, k2, k3, hGrow_refl a5, Nat.le_refl _, ?_⟩
        · simp (disch := omega) only [ob_s, ob0_s, ob1_s, i32_lit, ile_p, ile_n, ilt_p, ilt_n, ieq_p, ieq_n, ck_n, cl_n, sub_n, nI_add, sh_w, sh_l, an3_w, an3_l, an1_w, an1_l, hN_1, hN_3w, hN_3l, if_true, if_false, no, hsz, l5, h38, hp, e40, e42, hcnt, l4, k1]
        · show T + ((if lK l = 10 then 1 + (lVals l ++ [v]).length else 0) + mapPot R) ≤ T0 + 3 * (nMade N + 1)
          rw [if_pos hk, List.length_append, List.length_singleton]
          omega
      · rw [if_neg (show ¬ lTurns l < (tMem (lOth l)).length by omega)]
        have hvs : vsR (a 0) T (upd (a 54) (lvVals (l :: R)) (i 47)) (lvVals R) (lVals l ++ [v]) := by
          refine vsR_snoc (vsR_keep l11 (Nat.le_refl _) (fun _ _ => rfl) (fun k hk => upd_ne (by omega))) ?_
          rw [← ev, upd_at]
          exact hgot
        have hsum : tSz (tL (lVals l ++ [v])) = lLim l + tSz v := by
          rw [← hev, tSz_tL, tSz_tL, List.map_append, List.sum_append]
          simp
          omega
        have hlen : (lVals l ++ [v]).length = (lVals l).length + 1 := by simp
        have hlen6 : (lVals l).length + 1 ≤ 600 := by
          have h7 : (lVals l).length ≤ ((lVals l).map tSz).sum := sum_ge (lVals l) (fun x hx => by
            obtain ⟨k, hk9, rfl⟩ := List.getElem_of_mem hx
            exact cV_sz (l11 k hk9))
          rw [tSz_tL] at hev
          omega
        obtain ⟨f9, g', kk, n1, n2, n3, n4, n5⟩ := h_newListOf_a54 (n := n) (g := g) (i := upd (upd i 38 (nI (nMade N + 1))) 43 (nI (lvVals (l :: R) + 1))) (a := sv (sv a 41 R.length (nI (lLim l + tSz v))) 54 (lvVals (l :: R)) (i 47)) (T := T) (p := lvVals R) (ms := lVals l ++ [v]) (by omega) a1 a3 ⟨by omega, a2.2⟩ (by omega) a4 a5 (by omega) ⟨by omega, fine_list (fun k hk => ⟨_, hvs k hk⟩) (by omega)⟩ (by omega) hvs
        have hgr := CI_grow (T' := T + 1 + (lVals l ++ [v]).length) hci (by omega) n2 n4 n5.1 n5.2.1
        have hne : nI (4 * T + 1) ≠ -nI 2147483648 := cV_no (by omega) n3
        obtain ⟨i', a', z, i2, k1, k2, k3⟩ := h_leaveG (n := n) (got := some (tL (lVals l ++ [v]))) (x := nI (4 * T + 1)) (by omega) hgr hl2 h44 n3
        refine ⟨i', a', g', (kk.1 + 0, kk.2 + 0), z, i2, T + 1 + (lVals l ++ [v]).length, ?_, k2, ?_, by rw [Nat.add_zero, Nat.add_zero]; exact n5, by omega, ?_⟩
        · have e43 : upd (upd i 38 (nI (nMade N + 1))) 43 (nI (lvVals (l :: R) + 1)) 43 = nI (lvVals (l :: R) + 1) := rfl
          have e99 : lvVals (l :: R) + 1 - lvVals R = (lVals l ++ [v]).length := by omega
          simp (disch := omega) only [ob_s, ob0_s, ob1_s, i32_lit, ile_p, ile_n, ilt_p, ilt_n, ieq_p, ieq_n, ck_n, cl_n, sub_n, nI_add, sh_w, sh_l, an3_w, an3_l, an1_w, an1_l, hN_1, hN_3w, hN_3l, if_true, if_false, no, hsz, l5, h38, hp, e40, e42, e45, hcnt, l4, l10, e43, e99, n1]
          refine (obG_s (k' := (0, 0)) ?_)
          simp (disch := omega) only [ob_s, ob0_s, ob1_s, i32_lit, ile_p, ile_n, ilt_p, ilt_n, ieq_p, ieq_n, ck_n, cl_n, sub_n, nI_add, sh_w, sh_l, an3_w, an3_l, an1_w, an1_l, hN_1, hN_3w, hN_3l, if_true, if_false, hne, k1]
        · exact k3
        · show T + 1 + (lVals l ++ [v]).length + mapPot R ≤ T0 + 3 * (nMade N + 1)
          omega
theorem h_done {n : Nat} {g : Nat → Nat} {i : Nat → Int32} {a : Nat → Nat → Int32} {T : Nat} {G : GS} {N : LN} {F : List Fr} {l : Lv} {R : List Lv} {T0 : Nat} {got : Option Tr} (hn : 40000 ≤ n) (h : CI g i a T G N F (l :: R)) (hl : lvOk F (l :: R) (nMade N)) (hN : nOk N) (h46 : i 46 = nI 2) (h44 : i 44 = nI 0) (h43 : i 43 = nI (lvVals (l :: R))) (hgot : oV (a 0) T got (i 47)) (hw : lWs l = []) (hr : T + mapPot (l :: R) ≤ T0 + 3 * nMade N) (hT0 : T0 ≤ 250000) : TG n g T T0 (m_Machine_finishList n g i a) (aDone G N F l R got) := by
  obtain ⟨a1, a2, a3, a4, a5, a6, a7, a8, a9⟩ := h.1
  obtain ⟨d1, d2⟩ := lev_d (n := n) h hl
  obtain ⟨l1, l2, l3, l4, l5, l6, l7, l8, l9, l10, l11, l12⟩ := lev_1 h
  have hlo := hl.1 l List.mem_cons_self
  have hk10 := hlo.1
  have ht1 := hlo.2.2.2.2.1
  have ht2 := hlo.2.2.2.2.2.1
  have give : ∀ (o : Option Tr) (x : Int32) (q : Option ((Nat → Int32) × (Nat → Nat → Int32) × (Nat → Nat) × (Nat × Nat) × Int32)), oV (a 0) T o x → q = ob (m_Machine_leaveGiving n g i a (nI R.length) x) (fun i a r => some (i, a, g, (0, 0), r)) → TG n g T T0 q (aLeave 1 G N F (l :: R) o) := by
    intro o x q ho hq
    rw [hq]
    exact TG_of (h_leaveG (by omega) h hl h44 ho) a5 hr (aLeave_mp _ _ _ _ _ _)
  have wait : ∀ (q : Option ((Nat → Int32) × (Nat → Nat → Int32) × (Nat → Nat) × (Nat × Nat) × Int32)), q = ob (m_Machine_awaitTurn n g i a) (fun i a r => some (i, a, g, (0, 0), r)) → TG n g T T0 q (G, N, F, l :: R, 4, none, none) := by
    intro q hq
    rw [hq]
    exact TG_of (h_await h h43) a5 hr ⟨Nat.le_refl _, rfl⟩
  unfold m_Machine_finishList aDone
  rw [ob1_s, show i 40 - 1 = nI R.length from d1, if_pos (show (0 : Int32) ≤ nI R.length from nI_pos' (by omega)), ck_n (by omega), ob1_s, cl_n (by omega), l1]
  rcases (by omega : lK l = 0 ∨ lK l = 1 ∨ lK l = 2 ∨ lK l = 3 ∨ lK l = 4 ∨ lK l = 5 ∨ lK l = 6 ∨ lK l = 7 ∨ lK l = 8 ∨ lK l = 9 ∨ lK l = 10) with e | e | e | e | e | e | e | e | e | e | e
  · rw [if_pos e]
    obtain ⟨i', q1, q2⟩ := h_finish (n := n) (st := 2) (e := 0) (by omega) h hl (by decide)
    obtain ⟨m1, m2⟩ := aFinish_mp 2 0 G N (l :: R)
    refine ⟨i', a, g, (0, 0), -nI 2147483584, i', T, ?_, ?_, q2, hGrow_refl a5, Nat.le_refl _, by rw [m2]; omega⟩
    · rw [e, if_pos (show nI 0 = (0 : Int32) from rfl)]
      rw [show (2 : Int32) = nI 2 from rfl, show (0 : Int32) = nI 0 from rfl, q1, ob_s]
      rfl
    · unfold m_Machine_take
      simp only [i32_lit]
      rw [if_pos trivial]
  · rw [e, if_neg (show ¬ nI 1 = (0 : Int32) by decide), if_pos (show nI 1 = (1 : Int32) from rfl)]
    simp only [e, Nat.reduceEqDiff, if_true, if_false]
    exact give got (i 47) _ hgot rfl
  · rw [e, if_neg (show ¬ nI 2 = (0 : Int32) by decide), if_neg (show ¬ nI 2 = (1 : Int32) by decide), if_pos (show nI 2 = (2 : Int32) from rfl)]
    simp only [e, Nat.reduceEqDiff, if_true, if_false]
    exact give got (i 47) _ hgot rfl
  · rw [e, if_neg (show ¬ nI 3 = (0 : Int32) by decide), if_neg (show ¬ nI 3 = (1 : Int32) by decide), if_neg (show ¬ nI 3 = (2 : Int32) by decide), if_pos (show nI 3 = (3 : Int32) from rfl)]
    simp only [e, Nat.reduceEqDiff, if_true, if_false]
    rcases Nat.lt_or_ge (lTurns l) (lLim l) with h9 | h9
    · rw [if_pos h9]
      refine wait _ ?_
      simp (disch := omega) only [ob_s, ob0_s, ob1_s, i32_lit, ile_p, ile_n, ilt_p, ilt_n, ieq_p, ieq_n, ck_n, cl_n, sub_n, nI_add, sh_w, sh_l, an3_w, an3_l, an1_w, an1_l, hN_1, hN_3w, hN_3l, if_true, if_false, l5, l4]
    · rw [if_neg (show ¬ lTurns l < lLim l by omega)]
      refine give none (-nI 2147483648) _ rfl ?_
      simp (disch := omega) only [ob_s, ob0_s, ob1_s, i32_lit, ile_p, ile_n, ilt_p, ilt_n, ieq_p, ieq_n, ck_n, cl_n, sub_n, nI_add, sh_w, sh_l, an3_w, an3_l, an1_w, an1_l, hN_1, hN_3w, hN_3l, if_true, if_false, l5, l4]
  · rw [e, if_neg (show ¬ nI 4 = (0 : Int32) by decide), if_neg (show ¬ nI 4 = (1 : Int32) by decide), if_neg (show ¬ nI 4 = (2 : Int32) by decide), if_neg (show ¬ nI 4 = (3 : Int32) by decide), if_pos (show nI 4 = (4 : Int32) from rfl)]
    simp only [e, Nat.reduceEqDiff, if_true, if_false]
    exact wait _ rfl
  · rw [e, if_neg (show ¬ nI 5 = (0 : Int32) by decide), if_neg (show ¬ nI 5 = (1 : Int32) by decide), if_neg (show ¬ nI 5 = (2 : Int32) by decide), if_neg (show ¬ nI 5 = (3 : Int32) by decide), if_neg (show ¬ nI 5 = (4 : Int32) by decide), if_pos (show nI 5 = (5 : Int32) from rfl)]
    simp only [e, Nat.reduceEqDiff, if_true, if_false]
    have hoth := l6 (by omega)
    have hcnt := h_count (n := n) (i := i) a3 a5 hoth
    have hc6 := cV_cnt hoth (hlo.2.2.2.2.2.2.2.2.1 (by omega))
    rcases Nat.lt_or_ge (lTurns l) (tMem (lOth l)).length with h9 | h9
    · rw [if_pos h9]
      refine wait _ ?_
      simp (disch := omega) only [ob_s, ob0_s, ob1_s, i32_lit, ile_p, ile_n, ilt_p, ilt_n, ieq_p, ieq_n, ck_n, cl_n, sub_n, nI_add, sh_w, sh_l, an3_w, an3_l, an1_w, an1_l, hN_1, hN_3w, hN_3l, if_true, if_false, hcnt, l4]
    · rw [if_neg (show ¬ lTurns l < (tMem (lOth l)).length by omega)]
      refine give none (-nI 2147483648) _ rfl ?_
      simp (disch := omega) only [ob_s, ob0_s, ob1_s, i32_lit, ile_p, ile_n, ilt_p, ilt_n, ieq_p, ieq_n, ck_n, cl_n, sub_n, nI_add, sh_w, sh_l, an3_w, an3_l, an1_w, an1_l, hN_1, hN_3w, hN_3l, if_true, if_false, hcnt, l4]
  · rw [e, if_neg (show ¬ nI 6 = (0 : Int32) by decide), if_neg (show ¬ nI 6 = (1 : Int32) by decide), if_neg (show ¬ nI 6 = (2 : Int32) by decide), if_neg (show ¬ nI 6 = (3 : Int32) by decide), if_neg (show ¬ nI 6 = (4 : Int32) by decide), if_neg (show ¬ nI 6 = (5 : Int32) by decide), if_pos (show nI 6 = (6 : Int32) from rfl)]
    simp only [e, Nat.reduceEqDiff, if_true, if_false]
    exact give got (i 47) _ hgot rfl
  · rw [e, if_neg (show ¬ nI 7 = (0 : Int32) by decide), if_neg (show ¬ nI 7 = (1 : Int32) by decide), if_neg (show ¬ nI 7 = (2 : Int32) by decide), if_neg (show ¬ nI 7 = (3 : Int32) by decide), if_neg (show ¬ nI 7 = (4 : Int32) by decide), if_neg (show ¬ nI 7 = (5 : Int32) by decide), if_neg (show ¬ nI 7 = (6 : Int32) by decide), if_pos (show nI 7 = (7 : Int32) from rfl)]
    simp only [e, Nat.reduceEqDiff, if_true, if_false]
    exact give got (i 47) _ hgot rfl
  · rw [e, if_neg (show ¬ nI 8 = (0 : Int32) by decide), if_neg (show ¬ nI 8 = (1 : Int32) by decide), if_neg (show ¬ nI 8 = (2 : Int32) by decide), if_neg (show ¬ nI 8 = (3 : Int32) by decide), if_neg (show ¬ nI 8 = (4 : Int32) by decide), if_neg (show ¬ nI 8 = (5 : Int32) by decide), if_neg (show ¬ nI 8 = (6 : Int32) by decide), if_neg (show ¬ nI 8 = (7 : Int32) by decide), if_pos (show nI 8 = (8 : Int32) from rfl)]
    simp only [e, Nat.reduceEqDiff, if_true, if_false]
    exact give got (i 47) _ hgot rfl
  · rw [e, if_neg (show ¬ nI 9 = (0 : Int32) by decide), if_neg (show ¬ nI 9 = (1 : Int32) by decide), if_neg (show ¬ nI 9 = (2 : Int32) by decide), if_neg (show ¬ nI 9 = (3 : Int32) by decide), if_neg (show ¬ nI 9 = (4 : Int32) by decide), if_neg (show ¬ nI 9 = (5 : Int32) by decide), if_neg (show ¬ nI 9 = (6 : Int32) by decide), if_neg (show ¬ nI 9 = (7 : Int32) by decide), if_neg (show ¬ nI 9 = (8 : Int32) by decide), if_pos (show nI 9 = (9 : Int32) from rfl)]
    simp only [e, Nat.reduceEqDiff, if_true, if_false]
    have hh := h_test (n := n) (by omega) h hl h44 h43 hgot e
    have hm : cMp (aTest G N F l R got) ≤ mapPot (l :: R) ∧ cMd (aTest G N F l R got) = nMade N := by
      unfold aTest
      repeat' split
      all_goals first | exact aFail_mp _ _ _ _ _ | exact aLeave_mp _ _ _ _ _ _ | exact ⟨by show (if (4 : Nat) = 10 then _ else 0) + mapPot R ≤ _; rw [if_neg (by decide), mapPot]; omega, rfl⟩
    exact TG_of hh a5 hr hm
  · rw [e, if_neg (show ¬ nI 10 = (0 : Int32) by decide), if_neg (show ¬ nI 10 = (1 : Int32) by decide), if_neg (show ¬ nI 10 = (2 : Int32) by decide), if_neg (show ¬ nI 10 = (3 : Int32) by decide), if_neg (show ¬ nI 10 = (4 : Int32) by decide), if_neg (show ¬ nI 10 = (5 : Int32) by decide), if_neg (show ¬ nI 10 = (6 : Int32) by decide), if_neg (show ¬ nI 10 = (7 : Int32) by decide), if_neg (show ¬ nI 10 = (8 : Int32) by decide), if_neg (show ¬ nI 10 = (9 : Int32) by decide), if_pos (show nI 10 = (10 : Int32) from rfl)]
    simp only [e, Nat.reduceEqDiff, if_true, if_false]
    obtain ⟨i', a', g', k, x, i2, T', p1, p2, p3, p4, p5⟩ := h_mapped (n := n) (T0 := T0) hn h hl hN h44 h43 hgot e hw hr hT0
    refine ⟨i', a', g', (k.1 + 0, k.2 + 0), x, i2, T', ?_, p2, p3, by rw [Nat.add_zero, Nat.add_zero]; exact p4, p5⟩
    rw [p1]
    refine obG_s (k' := (0, 0)) ?_
    rfl

