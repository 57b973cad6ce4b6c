/-! lists that words make -/
theorem h_putMember {n : Nat} {g : Nat → Nat} {i : Nat → Int32} {a : Nat → Nat → Int32} {T s c k : Nat} {x : Int32} (hT : 1 ≤ T) (hd : a 0 T = nI (1073741824 + 8192 * s + c)) (hs : s < 131072) (hc : c ≤ 600) (hk : k < c) (h1 : T + 1 + c ≤ g 0) (hg : g 0 ≤ 340000) : m_Heap_putMember n g i a (nI (4 * T + 1)) (nI k) x = some (i, sv a 0 (T + 1 + k) x, nI 0) := by
  unfold m_Heap_putMember m_Heap_count
  simp (disch := omega) only [ob_s, ob0_s, ob1_s, i32_lit, ile_p, ile_n, ilt_p, ilt_n, ieq_p, ieq_n, ck_n, cl_n, sub_n, nI_add, sh_w, sh_l, an3_w, an3_l, an1_w, an1_l, hN_1, hN_3w, hN_3l, if_true, if_false, hd, hd_c]
/-- how far a list is filled -/
def Fil (f0 f : Nat → Int32) (T : Nat) (ms : List Tr) (k : Nat) : Prop := (∀ x, x < T → f x = f0 x) ∧ f T = nI (1073741824 + 8192 * tSz (tL ms) + ms.length) ∧ ∀ j (h : j < ms.length), j < k → cV f0 T (ms[j]'h) none (f (T + 1 + j))
theorem Fil_end {f0 f : Nat → Int32} {T k : Nat} {ms : List Tr} (h : Fil f0 f T ms k) (hk : ms.length ≤ k) (hT : 1 ≤ T ∧ sA f0 T = 0) (hc : ms.length ≤ 600) (hs : tSz (tL ms) ≤ 600) : cV f (T + 1 + ms.length) (tL ms) none (nI (4 * T + 1)) := by
  obtain ⟨h1, h2, h3⟩ := h
  exact cV_tL.mpr ⟨T, rfl, ⟨⟨hT.1, (sA_congr T h1).trans hT.2⟩, Nat.le_refl _, hc, ⟨by omega, fine_list (fun j hj => ⟨_, h3 j hj (by omega)⟩) hs⟩, h2⟩, fun j hj => cV_up (h3 j hj (by omega)) (by omega) h1⟩
theorem Fil_put {f0 f : Nat → Int32} {T k : Nat} {ms : List Tr} {x : Int32} (h : Fil f0 f T ms k) (hk : k < ms.length) (hx : cV f0 T (ms[k]'hk) none x) : Fil f0 (upd f (T + 1 + k) x) T ms (k + 1) := by
  obtain ⟨h1, h2, h3⟩ := h
  refine ⟨fun y hy => by rw [upd_ne (by omega)]; exact h1 y hy, by rw [upd_ne (by omega)]; exact h2, fun j hj hjk => ?_⟩
  rcases Nat.lt_or_ge j k with h9 | h9
  · rw [upd_ne (by omega)]
    exact h3 j hj h9
  · obtain rfl : j = k := by omega
    rw [upd_at]
    exact hx
theorem sv_updA {a : Nat → Nat → Int32} {f : Nat → Int32} {k : Nat} {x : Int32} : sv (updA a 0 f) 0 k x = updA a 0 (upd f k x) := by
  unfold sv
  rw [updA_at, updA_updA]
/-- a list that is made, its members wanting -/
theorem h_madeList {n : Nat} {g : Nat → Nat} {i : Nat → Int32} {a : Nat → Nat → Int32} {T : Nat} {G : GS} {N : LN} {F : List Fr} {L : List Lv} {ms : List Tr} (h : CI g i a T G N F L) (hNn : nOk N) (hT : ¬ 30000 < nMade N + ms.length + 1 → T + ms.length + 1 ≤ 340000) (hc : ms.length ≤ 600) (hs : tSz (tL ms) < 131072) : ((600 < tSz (tL ms) ∨ 30000 < nMade N + ms.length + 1) ∧ m_Deeds_madeList n g i a (nI ms.length) (nI (tSz (tL ms))) = some (i, a, g, (0, 0), -nI 2147483640)) ∨ (¬ (600 < tSz (tL ms) ∨ 30000 < nMade N + ms.length + 1) ∧ ∃ f g' k, m_Deeds_madeList n g i a (nI ms.length) (nI (tSz (tL ms))) = some (upd (upd i 8 (nI (T + 1 + ms.length))) 38 (nI (nMade N + (ms.length + 1))), updA a 0 f, g', k, nI (4 * T + 1)) ∧ Fil (a 0) f T ms 0 ∧ T + 1 + ms.length ≤ g' 0 ∧ hGrow g g' k) := by
  obtain ⟨a1, a2, a3, a4, a5, a6, a7, a8, a9⟩ := h.1
  have h38 := h.2.2.1.2.2.2.1
  have hmd := hNn.2.2.2.1
  rcases Classical.em (600 < tSz (tL ms) ∨ 30000 < nMade N + ms.length + 1) with hb | hb
  · left
    refine ⟨hb, ?_⟩
    unfold m_Deeds_madeList
    rcases Nat.lt_or_ge 600 (tSz (tL ms)) with h9 | h9
    · simp (disch := omega) only [ob_s, ob0_s, ob1_s, i32_lit, ile_p, ile_n, ilt_p, ilt_n, ieq_p, ieq_n, ck_n, cl_n, sub_n, nI_add, sh_w, sh_l, an3_w, an3_l, an1_w, an1_l, hN_1, hN_3w, hN_3l, if_true, if_false]
    · have h8 : 30000 < nMade N + ms.length + 1 := by omega
      simp (disch := omega) only [ob_s, ob0_s, ob1_s, i32_lit, ile_p, ile_n, ilt_p, ilt_n, ieq_p, ieq_n, ck_n, cl_n, sub_n, nI_add, sh_w, sh_l, an3_w, an3_l, an1_w, an1_l, hN_1, hN_3w, hN_3l, if_true, if_false, h38]
  · right
    have hT := hT (fun e => hb (Or.inr e))
    obtain ⟨f, g', kk, n1, n2, n3, n4, n5⟩ := h_newList (n := n) (g := g) (i := i) (a := a) (T := T) (c := ms.length) (s := tSz (tL ms)) a1 a3 ⟨by omega, a2.2⟩ (by omega) a4 a5 (by omega) hs
    refine ⟨hb, f, g', (kk.1 + 0, kk.2 + 0), ?_, ⟨n2, n3, fun j hj h0 => absurd h0 (Nat.not_lt_zero j)⟩, n4.1, by rw [Nat.add_zero, Nat.add_zero]; exact n5⟩
    have hne : nI (4 * T + 1) ≠ -nI 2147483648 := by
      intro e
      have := congrArg Int32.toInt e
      rw [nI_toInt (by omega)] at this
      have e9 : (-nI 2147483648).toInt = -2147483648 := by decide
      omega
    have e38 : upd i 8 (nI (T + 1 + ms.length)) 38 = nI (nMade N) := h38
    unfold m_Deeds_madeList
    simp (disch := omega) only [ob_s, ob0_s, ob1_s, i32_lit, ile_p, ile_n, ilt_p, ilt_n, ieq_p, ieq_n, ck_n, cl_n, sub_n, nI_add, sh_w, sh_l, an3_w, an3_l, an1_w, an1_l, hN_1, hN_3w, hN_3l, if_true, if_false, h38, n1]
    refine obG_s (k' := (0, 0)) ?_
    simp (disch := omega) only [ob_s, ob0_s, ob1_s, i32_lit, ile_p, ile_n, ilt_p, ilt_n, ieq_p, ieq_n, ck_n, cl_n, sub_n, nI_add, sh_w, sh_l, an3_w, an3_l, an1_w, an1_l, hN_1, hN_3w, hN_3l, if_true, if_false, hne, e38]
/-- what a list-making word comes to, when its list is filled -/
theorem h_listEnd {n : Nat} {g : Nat → Nat} {i : Nat → Int32} {a : Nat → Nat → Int32} {T : Nat} {G : GS} {N : LN} {F : List Fr} {L : List Lv} {T0 : Nat} {ms : List Tr} {o : Option ((Nat → Int32) × (Nat → Nat → Int32) × (Nat → Nat) × (Nat × Nat) × Int32)} (hn : 2000 ≤ n) (h : CI g i a T G N F L) (hl : lvOk F L (nMade N)) (hNn : nOk N) (h44 : i 44 = nI 0) (h43 : i 43 = nI (lvVals L)) (hr : T + mapPot L ≤ T0 + 3 * nMade N) (hT0 : T0 ≤ 250000) (hc : ms.length ≤ 600) (hs : tSz (tL ms) < 131072) (hbad : (600 < tSz (tL ms) ∨ 30000 < nMade N + ms.length + 1) → o = some (i, a, g, (0, 0), -nI 2147483640)) (hgood : ¬ (600 < tSz (tL ms) ∨ 30000 < nMade N + ms.length + 1) → ∃ f g' k, o = some (upd (upd i 8 (nI (T + 1 + ms.length))) 38 (nI (nMade N + (ms.length + 1))), updA a 0 f, g', k, nI (4 * T + 1)) ∧ Fil (a 0) f T ms ms.length ∧ T + 1 + ms.length ≤ g' 0 ∧ hGrow g g' k) : TG n g T T0 o (retM G N F L (aList (nMade N) ms)) := by
  obtain ⟨a1, a2, a3, a4, a5, a6, a7, a8, a9⟩ := h.1
  unfold aList
  rcases Classical.em (600 < tSz (tL ms) ∨ 30000 < nMade N + ms.length + 1) with hb | hb
  · rw [if_pos hb]
    obtain ⟨i', q1, q2⟩ := h_take_err (n := n) (e := 8) (by omega) h hl h44 (by decide) (by decide)
    obtain ⟨m1, m2⟩ := aFail_mp 8 G N F L
    exact ⟨i, a, g, (0, 0), _, i', T, hbad hb, q1, q2, hGrow_refl a5, Nat.le_refl _, by show T + cMp (aFail 8 G N F L) ≤ T0 + 3 * cMd (aFail 8 G N F L); rw [m2]; omega⟩
  · rw [if_neg hb]
    obtain ⟨f, g', k, e1, e2, e3, e4⟩ := hgood hb
    have hv := Fil_end e2 (Nat.le_refl _) ⟨by omega, a2.2⟩ hc (by omega)
    have hci : CI g (upd i 38 (nI (nMade N + ms.length + 1))) a T G (nSetMade N (nMade N + ms.length + 1)) F L := by
      obtain ⟨b1, b2, b3, b4, b5⟩ := h
      exact ⟨b1, b2, ⟨b3.1, b3.2.1, b3.2.2.1, rfl, b3.2.2.2.2⟩, b4, b5⟩
    have hgr := CI_grow (T' := T + 1 + ms.length) hci (by omega) e2.1 ⟨e3, sA_list_end (s := tSz (tL ms)) ⟨by omega, (sA_congr T e2.1).trans a2.2⟩ e2.2.1 (by omega) (by omega)⟩ e4.1 e4.2.1
    obtain ⟨i', q1, q2⟩ := h_take (n := n) (r := .ok (some (tL ms))) (by omega) hgr (lvOk_mono hl (by show nMade N ≤ nMade N + ms.length + 1; omega)) h44 h43 hv trivial
    have ec : upd (upd i 8 (nI (T + 1 + ms.length))) 38 (nI (nMade N + (ms.length + 1))) = upd (upd i 38 (nI (nMade N + ms.length + 1))) 8 (nI (T + 1 + ms.length)) := by
      rw [upd_comm (by decide), show nMade N + (ms.length + 1) = nMade N + ms.length + 1 by omega]
    rw [ec] at e1
    refine ⟨_, updA a 0 f, g', k, nI (4 * T + 1), i', T + 1 + ms.length, e1, q1, q2, e4, by omega, ?_⟩
    show T + 1 + ms.length + mapPot L ≤ T0 + 3 * (nMade N + ms.length + 1)
    omega
theorem tSz_lt {f : Nat → Int32} {T : Nat} {v : Tr} {x : Int32} (h : cV f T v none x) : tSz v < 131072 := by
  rcases cV_cases h with ⟨k, rfl, _⟩ | ⟨l, p, rfl, _, h3⟩ | ⟨ms, p, rfl, _, h3, _⟩
  · show (1 : Nat) < 131072
    decide
  · rw [tSz_tW]; have := h3.2.2.1; omega
  · exact h3.2.2.2.1.1
theorem tL_tail {m : Tr} {ms : List Tr} : tSz (tL (m :: ms)) = tSz m + tSz (tL ms) := rfl
theorem tL_snoc {ms : List Tr} {m : Tr} : tSz (tL (ms ++ [m])) = tSz m + tSz (tL ms) := by
  rw [tSz_tL, tSz_tL, List.map_append, List.sum_append]
  simp
  omega
theorem h_without_b {n : Nat} {g : Nat → Nat} {i : Nat → Int32} {a : Nat → Nat → Int32} {T first : Nat} {src ms : List Tr} {x : Int32} (ht : T ≤ g 0) (hg : g 0 ≤ 340000) (hT : 1 ≤ T) (hx : cV (a 0) T (tL src) none x) (hc : ms.length ≤ 600) (hs : tSz (tL ms) < 131072) (h1 : T + 1 + ms.length ≤ g 0) (hm : ∀ k (h : k < ms.length), ∃ h2 : first + k < src.length, ms[k] = src[first + k]) (hf : first + ms.length ≤ 1000) : ∀ (m k q : Nat) (f : Nat → Int32), ms.length = k + m → m < q → Fil (a 0) f T ms k → ∃ f', m_Deeds_without_b56 n q i (updA a 0 f) g x (nI first) (nI ms.length) (nI (4 * T + 1)) (nI k) = some (i, updA a 0 f', g, (0, 0), nI (4 * T + 1)) ∧ Fil (a 0) f' T ms ms.length := by
  have hne : nI (4 * T + 1) ≠ -nI 2147483640 := by
    intro e
    have := congrArg Int32.toInt e
    rw [nI_toInt (by omega)] at this
    have e9 : (-nI 2147483640).toInt = -2147483640 := by decide
    omega
  intro m
  induction m with
  | zero =>
    intro k q f e hq hfil
    obtain ⟨q, rfl⟩ : ∃ q', q = q' + 1 := ⟨q - 1, by omega⟩
    refine ⟨f, ?_, by rw [show ms.length = k by omega]; exact hfil⟩
    rw [m_Deeds_without_b56]
    simp (disch := omega) only [ob_s, ob0_s, ob1_s, i32_lit, ile_p, ile_n, ilt_p, ilt_n, ieq_p, ieq_n, ck_n, cl_n, sub_n, nI_add, sh_w, sh_l, an3_w, an3_l, an1_w, an1_l, hN_1, hN_3w, hN_3l, if_true, if_false]
  | succ m ih =>
    intro k q f e hq hfil
    obtain ⟨q, rfl⟩ : ∃ q', q = q' + 1 := ⟨q - 1, by omega⟩
    have hk : k < ms.length := by omega
    obtain ⟨h2, e2⟩ := hm k hk
    obtain ⟨y, q1, q2⟩ := h_member (n := n) (g := g) (i := i) (a := updA a 0 f) (top := T) ht hg (cV_up hx (Nat.le_refl _) hfil.1) h2
    have q2 : cV (a 0) T src[first + k] none y := cV_up (f := f) q2 (Nat.le_refl _) (fun z hz => (hfil.1 z hz).symm)
    rw [← e2] at q2
    have hp := h_putMember (n := n) (g := g) (i := i) (a := updA a 0 f) (x := y) hT hfil.2.1 hs hc hk h1 hg
    obtain ⟨f', r1, r2⟩ := ih (k + 1) q (upd f (T + 1 + k) y) (by omega) (by omega) (Fil_put hfil hk q2)
    refine ⟨f', ?_, r2⟩
    rw [m_Deeds_without_b56]
    simp (disch := omega) only [ob_s, ob0_s, ob1_s, i32_lit, ile_p, ile_n, ilt_p, ilt_n, ieq_p, ieq_n, ck_n, cl_n, sub_n, nI_add, sh_w, sh_l, an3_w, an3_l, an1_w, an1_l, hN_1, hN_3w, hN_3l, if_true, if_false, hne, q1, hp, sv_updA]
    exact r1
theorem h_without {n : Nat} {g : Nat → Nat} {i : Nat → Int32} {a : Nat → Nat → Int32} {T : Nat} {G : GS} {N : LN} {F : List Fr} {L : List Lv} {T0 : Nat} {src : List Tr} {x : Int32} {gone first : Nat} (hn : 2000 ≤ n) (h : CI g i a T G N F L) (hl : lvOk F L (nMade N)) (hNn : nOk N) (h44 : i 44 = nI 0) (h43 : i 43 = nI (lvVals L)) (hr : T + mapPot L ≤ T0 + 3 * nMade N) (hT0 : T0 ≤ 250000) (hx : cV (a 0) T (tL src) none x) (hne : src ≠ []) (hw : (gone = 0 ∧ first = 1) ∨ (gone = src.length - 1 ∧ first = 0)) : TG n g T T0 (m_Deeds_without n g i a x (nI gone) (nI first)) (retM G N F L (aList (nMade N) (if first = 1 then src.tail else src.dropLast))) := by
  obtain ⟨a1, a2, a3, a4, a5, a6, a7, a8, a9⟩ := h.1
  have hmd := hNn.2.2.2.1
  obtain ⟨ms, hms⟩ : ∃ ms, ms = if first = 1 then src.tail else src.dropLast := ⟨_, rfl⟩
  rw [← hms]
  have hlen : 1 ≤ src.length := by
    rcases Nat.eq_zero_or_pos src.length with h0 | h0
    · exact absurd (List.length_eq_zero_iff.mp h0) hne
    · exact h0
  have hml : ms.length = src.length - 1 := by
    rw [hms]; split
    · exact List.length_tail
    · exact List.length_dropLast
  have hc6 := cV_cnt hx (isL_tL src)
  rw [tMem_tL] at hc6
  have hst := tSz_lt hx
  have hgl : gone < src.length := by omega
  have hsz : tSz (tL src) = tSz src[gone] + tSz (tL ms) := by
    rcases hw with ⟨rfl, rfl⟩ | ⟨hg1, rfl⟩
    · rw [hms, if_pos rfl]
      cases src with
      | nil => exact absurd rfl hne
      | cons m r => rfl
    · rw [hms, if_neg (by decide)]
      have e1 : src.dropLast ++ [src[gone]] = src := by
        have := List.dropLast_concat_getLast hne
        rw [List.getLast_eq_getElem] at this
        simp only [hg1]
        exact this
      have e2 := tL_snoc (ms := src.dropLast) (m := src[gone])
      rw [e1] at e2
      exact e2
  have hs2 : tSz (tL ms) < 131072 := by omega
  have hm : ∀ k (h : k < ms.length), ∃ h2 : first + k < src.length, ms[k] = src[first + k] := by
    intro k hk
    rcases hw with ⟨_, rfl⟩ | ⟨_, rfl⟩
    · refine ⟨by omega, ?_⟩
      have : ms = src.tail := by rw [hms, if_pos rfl]
      subst this
      rw [List.getElem_tail]
      congr 1
      omega
    · refine ⟨by omega, ?_⟩
      have : ms = src.dropLast := by rw [hms, if_neg (by decide)]
      subst this
      rw [List.getElem_dropLast]
      congr 1
      omega
  have hcnt := h_count (n := n) (i := i) a3 a5 hx
  rw [tMem_tL] at hcnt
  have hsize := h_size (n := n) (i := i) a3 a5 (by omega) hx
  obtain ⟨y, q1, q2⟩ := h_member (n := n) (i := i) a3 a5 hx hgl
  have hsy := h_size (n := n) (i := i) a3 a5 (by omega) q2
  have e1 : tSz (tL src) - tSz src[gone] = tSz (tL ms) := by omega
  have hfl : first ≤ 1 := by omega
  refine h_listEnd (ms := ms) hn h hl hNn h44 h43 hr hT0 (by omega) hs2 (fun hb => ?_) (fun hb => ?_)
  · unfold m_Deeds_without
    rcases h_madeList (n := n) (ms := ms) h hNn (by omega) (by omega) hs2 with ⟨_, w⟩ | ⟨w, _⟩
    · simp (disch := omega) only [ob_s, ob0_s, ob1_s, i32_lit, ile_p, ile_n, ilt_p, ilt_n, ieq_p, ieq_n, ck_n, cl_n, sub_n, nI_add, sh_w, sh_l, an3_w, an3_l, an1_w, an1_l, hN_1, hN_3w, hN_3l, if_true, if_false, hcnt, hsize, q1, hsy, e1, ← hml, w]
      refine (obG_s (k' := (0, 0)) ?_).trans (by rfl)
      obtain ⟨n', rfl⟩ : ∃ n', n = n' + 1 := ⟨n - 1, by omega⟩
      rw [m_Deeds_without_b56]
      rcases Nat.eq_zero_or_pos ms.length with h0 | h0
      · simp (disch := omega) only [ob_s, ob0_s, ob1_s, i32_lit, ile_p, ile_n, ilt_p, ilt_n, ieq_p, ieq_n, ck_n, cl_n, sub_n, nI_add, sh_w, sh_l, an3_w, an3_l, an1_w, an1_l, hN_1, hN_3w, hN_3l, if_true, if_false, h0]
      · simp (disch := omega) only [ob_s, ob0_s, ob1_s, i32_lit, ile_p, ile_n, ilt_p, ilt_n, ieq_p, ieq_n, ck_n, cl_n, sub_n, nI_add, sh_w, sh_l, an3_w, an3_l, an1_w, an1_l, hN_1, hN_3w, hN_3l, if_true, if_false]
    · exact absurd hb w
  · rcases h_madeList (n := n) (ms := ms) h hNn (by omega) (by omega) hs2 with ⟨w, _⟩ | ⟨_, f, g', k, w1, w2, w3, w4⟩
    · exact absurd w hb
    · have hg1 := w4.2.1
      have hg0 := w4.1
      obtain ⟨f', r1, r2⟩ := h_without_b (n := n) (g := g') (i := upd (upd i 8 (nI (T + 1 + ms.length))) 38 (nI (nMade N + (ms.length + 1)))) (a := a) (T := T) (first := first) (by omega) hg1 (by omega) hx (by omega) hs2 w3 hm (by omega) ms.length 0 n f (by omega) (by omega) w2
      refine ⟨f', g', (k.1 + 0, k.2 + 0), ?_, r2, w3, by rw [Nat.add_zero, Nat.add_zero]; exact w4⟩
      unfold m_Deeds_without
      simp (disch := omega) only [ob_s, ob0_s, ob1_s, i32_lit, ile_p, ile_n, ilt_p, ilt_n, ieq_p, ieq_n, ck_n, cl_n, sub_n, nI_add, sh_w, sh_l, an3_w, an3_l, an1_w, an1_l, hN_1, hN_3w, hN_3l, if_true, if_false, hcnt, hsize, q1, hsy, e1, ← hml, w1]
      refine obG_s (k' := (0, 0)) ?_
      exact r1
theorem h_reverse_b {n : Nat} {g : Nat → Nat} {i : Nat → Int32} {a : Nat → Nat → Int32} {T : Nat} {src : List Tr} {x : Int32} (ht : T ≤ g 0) (hg : g 0 ≤ 340000) (hT : 1 ≤ T) (hx : cV (a 0) T (tL src) none x) (hc : src.length ≤ 600) (hs : tSz (tL src.reverse) < 131072) (h1 : T + 1 + src.length ≤ g 0) : ∀ (m k q : Nat) (f : Nat → Int32), src.length = k + m → m < q → Fil (a 0) f T src.reverse k → ∃ f', m_Deeds_reverse_b26 n q i (updA a 0 f) g x (nI src.length) (nI (4 * T + 1)) (nI k) = some (i, updA a 0 f', g, (0, 0), nI (4 * T + 1)) ∧ Fil (a 0) f' T src.reverse src.length := by
  have hne : nI (4 * T + 1) ≠ -nI 2147483640 := by
    intro e
    have := congrArg Int32.toInt e
    rw [nI_toInt (by omega)] at this
    have e9 : (-nI 2147483640).toInt = -2147483640 := by decide
    omega
  have hrl : src.reverse.length = src.length := List.length_reverse
  intro m
  induction m with
  | zero =>
    intro k q f e hq hfil
    obtain ⟨q, rfl⟩ : ∃ q', q = q' + 1 := ⟨q - 1, by omega⟩
    refine ⟨f, ?_, by rw [show src.length = k by omega]; exact hfil⟩
    rw [m_Deeds_reverse_b26]
    simp (disch := omega) only [ob_s, ob0_s, ob1_s, i32_lit, ile_p, ile_n, ilt_p, ilt_n, ieq_p, ieq_n, ck_n, cl_n, sub_n, nI_add, sh_w, sh_l, an3_w, an3_l, an1_w, an1_l, hN_1, hN_3w, hN_3l, if_true, if_false]
  | succ m ih =>
    intro k q f e hq hfil
    obtain ⟨q, rfl⟩ : ∃ q', q = q' + 1 := ⟨q - 1, by omega⟩
    have hk : k < src.reverse.length := by omega
    obtain ⟨y, q1, q2⟩ := h_member (n := n) (g := g) (i := i) (a := updA a 0 f) (top := T) ht hg (cV_up hx (Nat.le_refl _) hfil.1) (k := src.length - 1 - k) (by omega)
    have q2 : cV (a 0) T src[src.length - 1 - k] none y := cV_up (f := f) q2 (Nat.le_refl _) (fun z hz => (hfil.1 z hz).symm)
    have er : src.reverse[k] = src[src.length - 1 - k] := List.getElem_reverse hk
    rw [← er] at q2
    have hd := hfil.2.1
    have hp := h_putMember (n := n) (g := g) (i := i) (a := updA a 0 f) (x := y) hT hd hs (by omega) hk (by omega) hg
    obtain ⟨f', r1, r2⟩ := ih (k + 1) q (upd f (T + 1 + k) y) (by omega) (by omega) (Fil_put hfil hk q2)
    refine ⟨f', ?_, r2⟩
    rw [m_Deeds_reverse_b26]
    simp (disch := omega) only [ob_s, ob0_s, ob1_s, i32_lit, ile_p, ile_n, ilt_p, ilt_n, ieq_p, ieq_n, ck_n, cl_n, sub_n, nI_add, sh_w, sh_l, an3_w, an3_l, an1_w, an1_l, hN_1, hN_3w, hN_3l, if_true, if_false, hne, q1, hp, sv_updA]
    exact r1
theorem tSz_rev (src : List Tr) : tSz (tL src.reverse) = tSz (tL src) := by
  rw [tSz_tL, tSz_tL, List.map_reverse, List.sum_reverse]
theorem h_reverse {n : Nat} {g : Nat → Nat} {i : Nat → Int32} {a : Nat → Nat → Int32} {T : Nat} {G : GS} {N : LN} {F : List Fr} {L : List Lv} {T0 : Nat} {src : List Tr} {x : Int32} (hn : 2000 ≤ n) (h : CI g i a T G N F L) (hl : lvOk F L (nMade N)) (hNn : nOk N) (h44 : i 44 = nI 0) (h43 : i 43 = nI (lvVals L)) (hr : T + mapPot L ≤ T0 + 3 * nMade N) (hT0 : T0 ≤ 250000) (hx : cV (a 0) T (tL src) none x) : TG n g T T0 (m_Deeds_reverse n g i a x) (retM G N F L (aList (nMade N) src.reverse)) := by
  obtain ⟨a1, a2, a3, a4, a5, a6, a7, a8, a9⟩ := h.1
  have hmd := hNn.2.2.2.1
  have hc6 := cV_cnt hx (isL_tL src)
  rw [tMem_tL] at hc6
  have hst := tSz_lt hx
  have hrl : src.reverse.length = src.length := List.length_reverse
  have hcnt := h_count (n := n) (i := i) a3 a5 hx
  rw [tMem_tL] at hcnt
  have hsize := h_size (n := n) (i := i) a3 a5 (by omega) hx
  have hs2 : tSz (tL src.reverse) < 131072 := by rw [tSz_rev]; exact hst
  refine h_listEnd (ms := src.reverse) hn h hl hNn h44 h43 hr hT0 (by omega) hs2 (fun hb => ?_) (fun hb => ?_)
  · unfold m_Deeds_reverse
    rcases h_madeList (n := n) (ms := src.reverse) h hNn (by omega) (by omega) hs2 with ⟨_, w⟩ | ⟨w, _⟩
    · rw [hrl, tSz_rev] at w
      simp (disch := omega) only [ob_s, ob0_s, ob1_s, i32_lit, ile_p, ile_n, ilt_p, ilt_n, ieq_p, ieq_n, ck_n, cl_n, sub_n, nI_add, sh_w, sh_l, an3_w, an3_l, an1_w, an1_l, hN_1, hN_3w, hN_3l, if_true, if_false, hcnt, hsize, w]
      refine (obG_s (k' := (0, 0)) ?_).trans (by rfl)
      obtain ⟨n', rfl⟩ : ∃ n', n = n' + 1 := ⟨n - 1, by omega⟩
      rw [m_Deeds_reverse_b26]
      rcases Nat.eq_zero_or_pos src.length with h0 | h0
      · simp (disch := omega) only [ob_s, ob0_s, ob1_s, i32_lit, ile_p, ile_n, ilt_p, ilt_n, ieq_p, ieq_n, ck_n, cl_n, sub_n, nI_add, sh_w, sh_l, an3_w, an3_l, an1_w, an1_l, hN_1, hN_3w, hN_3l, if_true, if_false, h0]
      · simp (disch := omega) only [ob_s, ob0_s, ob1_s, i32_lit, ile_p, ile_n, ilt_p, ilt_n, ieq_p, ieq_n, ck_n, cl_n, sub_n, nI_add, sh_w, sh_l, an3_w, an3_l, an1_w, an1_l, hN_1, hN_3w, hN_3l, if_true, if_false]
    · exact absurd hb w
  · rcases h_madeList (n := n) (ms := src.reverse) h hNn (by omega) (by omega) hs2 with ⟨w, _⟩ | ⟨_, f, g', k, w1, w2, w3, w4⟩
    · exact absurd w hb
    · have hg1 := w4.2.1
      have hg0 := w4.1
      obtain ⟨f', r1, r2⟩ := h_reverse_b (n := n) (g := g') (i := upd (upd i 8 (nI (T + 1 + src.reverse.length))) 38 (nI (nMade N + (src.reverse.length + 1)))) (a := a) (T := T) (by omega) hg1 (by omega) hx (by omega) hs2 (by omega) src.length 0 n f (by omega) (by omega) w2
      refine ⟨f', g', (k.1 + 0, k.2 + 0), ?_, by rw [hrl]; exact r2, w3, by rw [Nat.add_zero, Nat.add_zero]; exact w4⟩
      unfold m_Deeds_reverse
      rw [hrl, tSz_rev] at w1
      simp (disch := omega) only [ob_s, ob0_s, ob1_s, i32_lit, ile_p, ile_n, ilt_p, ilt_n, ieq_p, ieq_n, ck_n, cl_n, sub_n, nI_add, sh_w, sh_l, an3_w, an3_l, an1_w, an1_l, hN_1, hN_3w, hN_3l, if_true, if_false, hcnt, hsize, w1]
      rw [hrl] at r1 ⊢
      refine obG_s (k' := (0, 0)) ?_
      exact r1
/-! two in one -/
def prt (one : Bool) (t : Tr) : List Tr := if one then [t] else tMem t
theorem h_joinB_b {n : Nat} {g : Nat → Nat} {i : Nat → Int32} {a : Nat → Nat → Int32} {T : Nat} {ob : Bool} {A : List Tr} {tb : Tr} {xb : Int32} (ht : T ≤ g 0) (hg : g 0 ≤ 340000) (hT : 1 ≤ T) (hx : cV (a 0) T tb none xb) (hob : ob = false → isL tb = true) (hc : (A ++ prt ob tb).length ≤ 600) (hs : tSz (tL (A ++ prt ob tb)) < 131072) (h1 : T + 1 + (A ++ prt ob tb).length ≤ g 0) : ∀ (m k q : Nat) (f : Nat → Int32), (prt ob tb).length = k + m → m < q → Fil (a 0) f T (A ++ prt ob tb) (A.length + k) → ∃ f', m_Deeds_join_b150 n q i (updA a 0 f) g xb (b1 ob) (nI A.length) (nI (prt ob tb).length) (nI (4 * T + 1)) (nI k) = some (i, updA a 0 f', g, (0, 0), nI (4 * T + 1)) ∧ Fil (a 0) f' T (A ++ prt ob tb) (A ++ prt ob tb).length := by
  have hal : (A ++ prt ob tb).length = A.length + (prt ob tb).length := List.length_append
  intro m
  induction m with
  | zero =>
    intro k q f e hq hfil
    obtain ⟨q, rfl⟩ : ∃ q', q = q' + 1 := ⟨q - 1, by omega⟩
    refine ⟨f, ?_, by rw [hal, show (prt ob tb).length = k by omega]; exact hfil⟩
    rw [m_Deeds_join_b150]
    simp (disch := omega) only [ob_s, ob0_s, ob1_s, i32_lit, ile_p, ile_n, ilt_p, ilt_n, ieq_p, ieq_n, ck_n, cl_n, sub_n, nI_add, sh_w, sh_l, an3_w, an3_l, an1_w, an1_l, hN_1, hN_3w, hN_3l, if_true, if_false]
  | succ m ih =>
    intro k q f e hq hfil
    obtain ⟨q, rfl⟩ : ∃ q', q = q' + 1 := ⟨q - 1, by omega⟩
    have hk : A.length + k < (A ++ prt ob tb).length := by omega
    have hk2 : k < (prt ob tb).length := by omega
    have er : (A ++ prt ob tb)[A.length + k] = (prt ob tb)[k] := by
      rw [List.getElem_append_right (by omega)]
      congr 1
      omega
    have key : ∀ y, cV (a 0) T (prt ob tb)[k] none y → ∃ f', m_Deeds_join_b187 n (m_Deeds_join_b150 n q) i (updA a 0 f) g xb (b1 ob) (nI A.length) (nI (prt ob tb).length) (nI (4 * T + 1)) (nI k) y (nI A.length + nI k) (nI (4 * T + 1)) = some (i, updA a 0 f', g, (0, 0), nI (4 * T + 1)) ∧ Fil (a 0) f' T (A ++ prt ob tb) (A ++ prt ob tb).length := by
      intro y hy
      rw [← er] at hy
      have hp := h_putMember (n := n) (g := g) (i := i) (a := updA a 0 f) (x := y) hT hfil.2.1 hs hc hk h1 hg
      obtain ⟨f', r1, r2⟩ := ih (k + 1) q (upd f (T + 1 + (A.length + k)) y) (by omega) (by omega) (Fil_put hfil hk hy)
      refine ⟨f', ?_, r2⟩
      unfold m_Deeds_join_b187
      simp (disch := omega) only [ob_s, ob0_s, ob1_s, i32_lit, ile_p, ile_n, ilt_p, ilt_n, ieq_p, ieq_n, ck_n, cl_n, sub_n, nI_add, sh_w, sh_l, an3_w, an3_l, an1_w, an1_l, hN_1, hN_3w, hN_3l, if_true, if_false, hp, sv_updA]
      exact r1
    cases ob with
    | true =>
      have hk0 : k = 0 := by
        have : (prt true tb).length = 1 := rfl
        omega
      subst hk0
      obtain ⟨f', r1, r2⟩ := key xb hx
      refine ⟨f', ?_, r2⟩
      rw [m_Deeds_join_b150]
      simp (disch := omega) only [ob_s, ob0_s, ob1_s, i32_lit, ile_p, ile_n, ilt_p, ilt_n, ieq_p, ieq_n, ck_n, cl_n, sub_n, nI_add, sh_w, sh_l, an3_w, an3_l, an1_w, an1_l, hN_1, hN_3w, hN_3l, if_true, if_false, b1_t] at r1 ⊢
      exact r1
    | false =>
      have hb := hob rfl
      have et := isL_eq hx hb
      have hx2 := hx
      rw [et] at hx2
      obtain ⟨y, q1, q2⟩ := h_member (n := n) (g := g) (i := i) (a := updA a 0 f) (top := T) ht hg (cV_up hx2 (Nat.le_refl _) hfil.1) (k := k) hk2
      have q2 : cV (a 0) T (tMem tb)[k] none y := cV_up (f := f) q2 (Nat.le_refl _) (fun z hz => (hfil.1 z hz).symm)
      obtain ⟨f', r1, r2⟩ := key y q2
      refine ⟨f', ?_, r2⟩
      rw [m_Deeds_join_b150]
      simp (disch := omega) only [ob_s, ob0_s, ob1_s, i32_lit, ile_p, ile_n, ilt_p, ilt_n, ieq_p, ieq_n, ck_n, cl_n, sub_n, nI_add, sh_w, sh_l, an3_w, an3_l, an1_w, an1_l, hN_1, hN_3w, hN_3l, if_true, if_false, b1_f, q1] at r1 ⊢
      exact r1
theorem h_joinA_b {n : Nat} {g : Nat → Nat} {i : Nat → Int32} {a : Nat → Nat → Int32} {T : Nat} {oa ob : Bool} {ta tb : Tr} {xa xb : Int32} (hn : 2000 ≤ n) (ht : T ≤ g 0) (hg : g 0 ≤ 340000) (hT : 1 ≤ T) (hxa : cV (a 0) T ta none xa) (hx : cV (a 0) T tb none xb) (hoa : oa = false → isL ta = true) (hob : ob = false → isL tb = true) (hc : (prt oa ta ++ prt ob tb).length ≤ 600) (hs : tSz (tL (prt oa ta ++ prt ob tb)) < 131072) (h1 : T + 1 + (prt oa ta ++ prt ob tb).length ≤ g 0) : ∀ (m k q : Nat) (f : Nat → Int32), (prt oa ta).length = k + m → m < q → Fil (a 0) f T (prt oa ta ++ prt ob tb) k → ∃ f', m_Deeds_join_b105 n q i (updA a 0 f) g xa (b1 oa) xb (b1 ob) (nI (prt oa ta).length) (nI (prt ob tb).length) (nI (4 * T + 1)) (nI k) = some (i, updA a 0 f', g, (0, 0), nI (4 * T + 1)) ∧ Fil (a 0) f' T (prt oa ta ++ prt ob tb) (prt oa ta ++ prt ob tb).length := by
  have hal : (prt oa ta ++ prt ob tb).length = (prt oa ta).length + (prt ob tb).length := List.length_append
  intro m
  induction m with
  | zero =>
    intro k q f e hq hfil
    obtain ⟨q, rfl⟩ : ∃ q', q = q' + 1 := ⟨q - 1, by omega⟩
    obtain ⟨f', r1, r2⟩ := h_joinB_b (n := n) (g := g) (i := i) (A := prt oa ta) (ob := ob) ht hg hT hx hob hc hs h1 (prt ob tb).length 0 n f (by omega) (by omega) (by rw [Nat.add_zero, show (prt oa ta).length = k by omega]; exact hfil)
    refine ⟨f', ?_, r2⟩
    rw [m_Deeds_join_b105]
    simp (disch := omega) only [ob_s, ob0_s, ob1_s, i32_lit, ile_p, ile_n, ilt_p, ilt_n, ieq_p, ieq_n, ck_n, cl_n, sub_n, nI_add, sh_w, sh_l, an3_w, an3_l, an1_w, an1_l, hN_1, hN_3w, hN_3l, if_true, if_false]
    exact r1
  | succ m ih =>
    intro k q f e hq hfil
    obtain ⟨q, rfl⟩ : ∃ q', q = q' + 1 := ⟨q - 1, by omega⟩
    have hk : k < (prt oa ta ++ prt ob tb).length := by omega
    have hk2 : k < (prt oa ta).length := by omega
    have er : (prt oa ta ++ prt ob tb)[k] = (prt oa ta)[k] := List.getElem_append_left hk2
    have key : ∀ y, cV (a 0) T (prt oa ta)[k] none y → ∃ f', m_Deeds_join_b138 n (m_Deeds_join_b105 n q) i (updA a 0 f) g xa (b1 oa) xb (b1 ob) (nI (prt oa ta).length) (nI (prt ob tb).length) (nI (4 * T + 1)) (nI k) y (nI k) (nI (4 * T + 1)) = some (i, updA a 0 f', g, (0, 0), nI (4 * T + 1)) ∧ Fil (a 0) f' T (prt oa ta ++ prt ob tb) (prt oa ta ++ prt ob tb).length := by
      intro y hy
      rw [← er] at hy
      have hp := h_putMember (n := n) (g := g) (i := i) (a := updA a 0 f) (x := y) hT hfil.2.1 hs hc hk h1 hg
      obtain ⟨f', r1, r2⟩ := ih (k + 1) q (upd f (T + 1 + k) y) (by omega) (by omega) (Fil_put hfil hk hy)
      refine ⟨f', ?_, r2⟩
      unfold m_Deeds_join_b138
      simp (disch := omega) only [ob_s, ob0_s, ob1_s, i32_lit, ile_p, ile_n, ilt_p, ilt_n, ieq_p, ieq_n, ck_n, cl_n, sub_n, nI_add, sh_w, sh_l, an3_w, an3_l, an1_w, an1_l, hN_1, hN_3w, hN_3l, if_true, if_false, hp, sv_updA]
      exact r1
    cases oa with
    | true =>
      have hk0 : k = 0 := by
        have : (prt true ta).length = 1 := rfl
        omega
      subst hk0
      obtain ⟨f', r1, r2⟩ := key xa hxa
      refine ⟨f', ?_, r2⟩
      rw [m_Deeds_join_b105]
      simp (disch := omega) only [ob_s, ob0_s, ob1_s, i32_lit, ile_p, ile_n, ilt_p, ilt_n, ieq_p, ieq_n, ck_n, cl_n, sub_n, nI_add, sh_w, sh_l, an3_w, an3_l, an1_w, an1_l, hN_1, hN_3w, hN_3l, if_true, if_false, b1_t] at r1 ⊢
      exact r1
    | false =>
      have hb := hoa rfl
      have et := isL_eq hxa hb
      have hx2 := hxa
      rw [et] at hx2
      obtain ⟨y, q1, q2⟩ := h_member (n := n) (g := g) (i := i) (a := updA a 0 f) (top := T) ht hg (cV_up hx2 (Nat.le_refl _) hfil.1) (k := k) hk2
      have q2 : cV (a 0) T (tMem ta)[k] none y := cV_up (f := f) q2 (Nat.le_refl _) (fun z hz => (hfil.1 z hz).symm)
      obtain ⟨f', r1, r2⟩ := key y q2
      refine ⟨f', ?_, r2⟩
      rw [m_Deeds_join_b105]
      simp (disch := omega) only [ob_s, ob0_s, ob1_s, i32_lit, ile_p, ile_n, ilt_p, ilt_n, ieq_p, ieq_n, ck_n, cl_n, sub_n, nI_add, sh_w, sh_l, an3_w, an3_l, an1_w, an1_l, hN_1, hN_3w, hN_3l, if_true, if_false, b1_f, q1] at r1 ⊢
      exact r1
theorem prt_sz {f : Nat → Int32} {T : Nat} {o : Bool} {t : Tr} {x : Int32} (h : cV f T t none x) (ho : o = false → isL t = true) : 1 + ((prt o t).map tSz).sum = 1 + tSz t - (if o then 0 else 1) := by
  cases o with
  | true =>
    show 1 + (tSz t + 0) = 1 + tSz t - 0
    omega
  | false =>
    have e := isL_eq h (ho rfl)
    show 1 + ((tMem t).map tSz).sum = 1 + tSz t - 1
    have e2 : tSz t = 1 + ((tMem t).map tSz).sum := by
      conv => lhs; rw [e]
      exact tSz_tL _
    omega
theorem h_join {n : Nat} {g : Nat → Nat} {i : Nat → Int32} {a : Nat → Nat → Int32} {T : Nat} {G : GS} {N : LN} {F : List Fr} {L : List Lv} {T0 : Nat} {oa ob : Bool} {ta tb : Tr} {xa xb : Int32} (hn : 2000 ≤ n) (h : CI g i a T G N F L) (hl : lvOk F L (nMade N)) (hNn : nOk N) (h44 : i 44 = nI 0) (h43 : i 43 = nI (lvVals L)) (hr : T + mapPot L ≤ T0 + 3 * nMade N) (hT0 : T0 ≤ 250000) (hxa : cV (a 0) T ta none xa) (hxb : cV (a 0) T tb none xb) (hoa : oa = false → isL ta = true) (hob : ob = false → isL tb = true) : TG n g T T0 (m_Deeds_join n g i a xa (b1 oa) xb (b1 ob)) (retM G N F L (aList (nMade N) (prt oa ta ++ prt ob tb))) := by
  obtain ⟨a1, a2, a3, a4, a5, a6, a7, a8, a9⟩ := h.1
  have hmd := hNn.2.2.2.1
  have hal : (prt oa ta ++ prt ob tb).length = (prt oa ta).length + (prt ob tb).length := List.length_append
  have hsa := prt_sz hxa hoa
  have hsb := prt_sz hxb hob
  have h1a := cV_sz hxa
  have h1b := cV_sz hxb
  have hta := tSz_lt hxa
  have htb := tSz_lt hxb
  have hza := h_size (n := n) (i := i) a3 a5 (by omega) hxa
  have hzb := h_size (n := n) (i := i) a3 a5 (by omega) hxb
  have hca := h_count (n := n) (i := i) a3 a5 hxa
  have hcb := h_count (n := n) (i := i) a3 a5 hxb
  have hla : (prt oa ta).length ≤ 600 := by
    cases oa with
    | true => show (1 : Nat) ≤ 600; decide
    | false => exact cV_cnt hxa (hoa rfl)
  have hlb : (prt ob tb).length ≤ 600 := by
    cases ob with
    | true => show (1 : Nat) ≤ 600; decide
    | false => exact cV_cnt hxb (hob rfl)
  have hsum : tSz (tL (prt oa ta ++ prt ob tb)) = 1 + tSz ta - (if oa then 0 else 1) + tSz tb - (if ob then 0 else 1) := by
    rw [tSz_tL, List.map_append, List.sum_append]
    cases oa <;> cases ob <;> simp only [if_true, if_false, Bool.false_eq_true] at hsa hsb ⊢ <;> omega
  have hlenS : (prt oa ta ++ prt ob tb).length ≤ ((prt oa ta ++ prt ob tb).map tSz).sum := by
    refine sum_ge _ (fun v hv => ?_)
    rcases List.mem_append.mp hv with hv | hv
    · cases oa with
      | true =>
        have : v ∈ [ta] := hv
        rw [List.mem_singleton.mp this]; exact h1a
      | false =>
        obtain ⟨k, hk, rfl⟩ := List.getElem_of_mem (show v ∈ tMem ta from hv)
        have hx2 := hxa
        rw [isL_eq hxa (hoa rfl)] at hx2
        obtain ⟨p, _, _, q⟩ := cV_tL.mp hx2
        exact cV_sz (q k hk)
    · cases ob with
      | true =>
        have : v ∈ [tb] := hv
        rw [List.mem_singleton.mp this]; exact h1b
      | false =>
        obtain ⟨k, hk, rfl⟩ := List.getElem_of_mem (show v ∈ tMem tb from hv)
        have hx2 := hxb
        rw [isL_eq hxb (hob rfl)] at hx2
        obtain ⟨p, _, _, q⟩ := cV_tL.mp hx2
        exact cV_sz (q k hk)
  have esz : tSz (tL (prt oa ta ++ prt ob tb)) = 1 + ((prt oa ta ++ prt ob tb).map tSz).sum := tSz_tL _
  -- what is computed ahead
  have ahead : ∀ z, (obG (m_Deeds_madeList n g i a (nI (prt oa ta ++ prt ob tb).length) (nI (tSz (tL (prt oa ta ++ prt ob tb))))) (fun i_3 a_4 g_5 r_7 => if r_7 = ((-2147483640 : Int32)) then some (i_3, a_4, g_5, ((0, 0) : Nat × Nat), r_7) else m_Deeds_join_b105 n n i_3 a_4 g_5 xa (b1 oa) xb (b1 ob) (nI (prt oa ta).length) (nI (prt ob tb).length) r_7 (0 : Int32)) = z) → m_Deeds_join n g i a xa (b1 oa) xb (b1 ob) = z := by
    intro z hz
    rw [← hz]
    rw [hsum, hal]
    have ela : oa = false → (tMem ta).length = (prt oa ta).length := fun e => by subst e; rfl
    have elb : ob = false → (tMem tb).length = (prt ob tb).length := fun e => by subst e; rfl
    cases oa <;> cases ob
    · rw [ela rfl] at hca
      rw [elb rfl] at hcb
      simp (disch := omega) only [ob_s, ob0_s, ob1_s, i32_lit, ile_p, ile_n, ilt_p, ilt_n, ieq_p, ieq_n, ck_n, cl_n, sub_n, nI_add, sh_w, sh_l, an3_w, an3_l, an1_w, an1_l, hN_1, hN_3w, hN_3l, if_true, if_false, m_Deeds_join, m_Deeds_join_b16, m_Deeds_join_b35, m_Deeds_join_b56, m_Deeds_join_b76, b1_f, hca, hcb, hza, hzb, Bool.false_eq_true]
    · rw [ela rfl] at hca
      have e1 : (prt true tb).length = 1 := rfl
      simp (disch := omega) only [ob_s, ob0_s, ob1_s, i32_lit, ile_p, ile_n, ilt_p, ilt_n, ieq_p, ieq_n, ck_n, cl_n, sub_n, nI_add, sh_w, sh_l, an3_w, an3_l, an1_w, an1_l, hN_1, hN_3w, hN_3l, if_true, if_false, m_Deeds_join, m_Deeds_join_b16, m_Deeds_join_b35, m_Deeds_join_b56, m_Deeds_join_b76, b1_f, b1_t, hca, hza, hzb, Bool.false_eq_true, e1]
    · rw [elb rfl] at hcb
      have e1 : (prt true ta).length = 1 := rfl
      simp (disch := omega) only [ob_s, ob0_s, ob1_s, i32_lit, ile_p, ile_n, ilt_p, ilt_n, ieq_p, ieq_n, ck_n, cl_n, sub_n, nI_add, sh_w, sh_l, an3_w, an3_l, an1_w, an1_l, hN_1, hN_3w, hN_3l, if_true, if_false, m_Deeds_join, m_Deeds_join_b16, m_Deeds_join_b35, m_Deeds_join_b56, m_Deeds_join_b76, b1_f, b1_t, hcb, hza, hzb, Bool.false_eq_true, e1]
    · have e1 : (prt true ta).length = 1 := rfl
      have e2 : (prt true tb).length = 1 := rfl
      simp (disch := omega) only [ob_s, ob0_s, ob1_s, i32_lit, ile_p, ile_n, ilt_p, ilt_n, ieq_p, ieq_n, ck_n, cl_n, sub_n, nI_add, sh_w, sh_l, an3_w, an3_l, an1_w, an1_l, hN_1, hN_3w, hN_3l, if_true, if_false, m_Deeds_join, m_Deeds_join_b16, m_Deeds_join_b35, m_Deeds_join_b56, m_Deeds_join_b76, b1_t, hza, hzb, e1, e2]
  rcases Nat.lt_or_ge 600 (tSz (tL (prt oa ta ++ prt ob tb))) with hbig | hsmall
  · -- too large: nothing is made
    obtain ⟨i', q1, q2⟩ := h_take_err (n := n) (e := 8) (by omega) h hl h44 (by decide) (by decide)
    obtain ⟨m1, m2⟩ := aFail_mp 8 G N F L
    unfold aList
    rw [if_pos (Or.inl hbig)]
    refine ⟨i, a, g, (0, 0), _, i', T, ?_, q1, q2, hGrow_refl a5, Nat.le_refl _, by show T + cMp (aFail 8 G N F L) ≤ T0 + 3 * cMd (aFail 8 G N F L); rw [m2]; omega⟩
    refine ahead _ ?_
    unfold m_Deeds_madeList
    simp (disch := omega) only [ob_s, ob0_s, ob1_s, i32_lit, ile_p, ile_n, ilt_p, ilt_n, ieq_p, ieq_n, ck_n, cl_n, sub_n, nI_add, sh_w, sh_l, an3_w, an3_l, an1_w, an1_l, hN_1, hN_3w, hN_3l, if_true, if_false]
    refine (obG_s (k' := (0, 0)) ?_).trans (by rfl)
    rw [if_pos rfl]
  · have hs2 : tSz (tL (prt oa ta ++ prt ob tb)) < 131072 := by omega
    refine h_listEnd (ms := prt oa ta ++ prt ob tb) hn h hl hNn h44 h43 hr hT0 (by omega) hs2 (fun hb => ?_) (fun hb => ?_)
    · rcases h_madeList (n := n) (ms := prt oa ta ++ prt ob tb) h hNn (by omega) (by omega) hs2 with ⟨_, w⟩ | ⟨w, _⟩
      · refine ahead _ ?_
        rw [w]
        refine (obG_s (k' := (0, 0)) ?_).trans (by rfl)
        rw [if_pos (show -nI 2147483640 = (-2147483640 : Int32) from rfl)]
      · exact absurd hb w
    · rcases h_madeList (n := n) (ms := prt oa ta ++ prt ob tb) h hNn (by omega) (by omega) hs2 with ⟨w, _⟩ | ⟨_, f, g', k, w1, w2, w3, w4⟩
      · exact absurd w hb
      · have hg1 := w4.2.1
        have hg0 := w4.1
        obtain ⟨f', r1, r2⟩ := h_joinA_b (n := n) (g := g') (i := upd (upd i 8 (nI (T + 1 + (prt oa ta ++ prt ob tb).length))) 38 (nI (nMade N + ((prt oa ta ++ prt ob tb).length + 1)))) (a := a) (T := T) (oa := oa) (ob := ob) hn (by omega) hg1 (by omega) hxa hxb hoa hob (by omega) hs2 w3 (prt oa ta).length 0 n f (by omega) (by omega) w2
        refine ⟨f', g', (k.1 + 0, k.2 + 0), ?_, r2, w3, by rw [Nat.add_zero, Nat.add_zero]; exact w4⟩
        refine ahead _ ?_
        rw [w1]
        refine obG_s (k' := (0, 0)) ?_
        have hne : ¬ nI (4 * T + 1) = (-2147483640 : Int32) := by
          intro e
          have := congrArg Int32.toInt e
          rw [nI_toInt (by omega)] at this
          have e9 : (-2147483640 : Int32).toInt = -2147483640 := by decide
          omega
        rw [if_neg hne]
        exact r1
theorem h_item {n : Nat} {g : Nat → Nat} {i : Nat → Int32} {a : Nat → Nat → Int32} {T : Nat} {G : GS} {N : LN} {F : List Fr} {L : List Lv} {k : Int} {l : Tr} {x kk : Int32} (h : CI g i a T G N F L) (hx : cV (a 0) T l none x) (hl : isL l = true) (hk : kk = Int32.ofInt k) (h1 : -1000000000 ≤ k) (h2 : k ≤ 1000000000) : ∃ y, m_Deeds_item n g i a kk x = some y ∧ gV (a 0) T (match aItem k l with
    | .ok t => .ok (some t)
    | .error e => .error e) y := by
  obtain ⟨a1, a2, a3, a4, a5, a6, a7, a8, a9⟩ := h.1
  have hc6 := cV_cnt hx hl
  have hcnt := h_count (n := n) (i := i) a3 a5 hx
  rw [isL_eq hx hl] at hx
  unfold m_Deeds_item aItem
  rcases Classical.em (1 ≤ k) with hk1 | hk1
  · obtain ⟨q, hq⟩ : ∃ q : Nat, k = (q : Int) := ⟨k.toNat, by omega⟩
    subst hq
    have ek : kk = nI q := hk
    rw [if_pos hk1]
    rcases Nat.lt_or_ge (tMem l).length q with h9 | h9
    · rw [List.getElem?_eq_none (by omega)]
      refine ⟨-nI 2147483645, ?_, rfl⟩
      simp (disch := omega) only [ob_s, ob0_s, ob1_s, i32_lit, ile_p, ile_n, ilt_p, ilt_n, ieq_p, ieq_n, ck_n, cl_n, sub_n, nI_add, sh_w, sh_l, an3_w, an3_l, an1_w, an1_l, hN_1, hN_3w, hN_3l, if_true, if_false, ek, hcnt]
    · obtain ⟨y, q1, q2⟩ := h_member (n := n) (i := i) a3 a5 hx (k := q - 1) (by omega)
      refine ⟨y, ?_, ?_⟩
      · simp (disch := omega) only [ob_s, ob0_s, ob1_s, i32_lit, ile_p, ile_n, ilt_p, ilt_n, ieq_p, ieq_n, ck_n, cl_n, sub_n, nI_add, sh_w, sh_l, an3_w, an3_l, an1_w, an1_l, hN_1, hN_3w, hN_3l, if_true, if_false, ek, hcnt, q1]
      · rw [List.getElem?_eq_getElem (by omega : (q : Int).toNat - 1 < (tMem l).length)]
        exact q2
  · rw [if_neg hk1]
    refine ⟨-nI 2147483645, ?_, rfl⟩
    rw [if_pos (by rw [hk, Int32.lt_iff_toInt_lt, i32_int (by omega) (by omega)]; show k < 1; omega)]
    rfl

