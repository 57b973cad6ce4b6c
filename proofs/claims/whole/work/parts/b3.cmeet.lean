/-! the first member of an E -/
theorem h_take_err {n : Nat} {g : Nat → Nat} {i : Nat → Int32} {a : Nat → Nat → Int32} {T : Nat} {G : GS} {N : LN} {F : List Fr} {L : List Lv} {e : Nat} (hn : 200 ≤ n) (h : CI g i a T G N F L) (hl : lvOk F L (nMade N)) (h44 : i 44 = nI 0) (h1 : 1 ≤ e) (h2 : e ≤ 13) : ∃ i', m_Machine_take n g i a (-nI (2147483648 - e)) = some (i', a, nI 0) ∧ CR g i' a T (aFail e G N F L) := by
  obtain ⟨f1, f2, f3, f4⟩ := err_facts h1 h2
  obtain ⟨i', q1, q2⟩ := h_fail (n := n) (i := upd (upd i 46 (nI 1)) 47 (-nI (2147483648 - e))) (e := e) hn h hl rfl h44
  refine ⟨i', ?_, q2⟩
  unfold m_Machine_take
  simp only [i32_lit, ob1_s]
  rw [if_neg f1, if_neg f2, if_neg f3, f4, q1, ob_s]
/-- what a step gives, taken, stands for this state -/
def TK (n : Nat) (g : Nat → Nat) (T : Nat) (o : Option ((Nat → Int32) × (Nat → Nat → Int32) × Int32)) (c : Cfg) : Prop := ∃ i' a' x i2, o = some (i', a', x) ∧ m_Machine_take n g i' a' x = some (i2, a', nI 0) ∧ CR g i2 a' T c
theorem TK_el {n : Nat} {g : Nat → Nat} {i : Nat → Int32} {a : Nat → Nat → Int32} {T : Nat} {o : Option ((Nat → Int32) × (Nat → Nat → Int32) × Int32)} {c : Cfg} (e : o = some (i, a, -nI 2147483584)) (h : CR g i a T c) : TK n g T o c := by
  refine ⟨i, a, _, i, e, ?_, h⟩
  unfold m_Machine_take
  simp only [i32_lit]
  rw [if_pos trivial]
theorem TK_gv {n : Nat} {g : Nat → Nat} {i : Nat → Int32} {a : Nat → Nat → Int32} {T : Nat} {G : GS} {N : LN} {F : List Fr} {L : List Lv} {o : Option ((Nat → Int32) × (Nat → Nat → Int32) × Int32)} {r : Rs} {x : Int32} (e : o = some (i, a, x)) (hn : 200 ≤ n) (h : CI g i a T G N F L) (hl : lvOk F L (nMade N)) (h44 : i 44 = nI 0) (h43 : i 43 = nI (lvVals L)) (hx : gV (a 0) T r x) (hr : rsOk r) : TK n g T o (aTake G N F L r) := by
  obtain ⟨i', q1, q2⟩ := h_take hn h hl h44 h43 hx hr
  exact ⟨i, a, x, i', e, q1, q2⟩
theorem TK_er {n : Nat} {g : Nat → Nat} {i : Nat → Int32} {a : Nat → Nat → Int32} {T : Nat} {G : GS} {N : LN} {F : List Fr} {L : List Lv} {o : Option ((Nat → Int32) × (Nat → Nat → Int32) × Int32)} {e : Nat} (eo : o = some (i, a, -nI (2147483648 - e))) (hn : 200 ≤ n) (h : CI g i a T G N F L) (hl : lvOk F L (nMade N)) (h44 : i 44 = nI 0) (h1 : 1 ≤ e) (h2 : e ≤ 13) : TK n g T o (aFail e G N F L) := by
  obtain ⟨i', q1, q2⟩ := h_take_err hn h hl h44 h1 h2
  exact ⟨i, a, _, i', eo, q1, q2⟩
theorem TK_pass {n : Nat} {g : Nat → Nat} {T : Nat} {o : Option ((Nat → Int32) × (Nat → Nat → Int32) × Int32)} {c : Cfg} (h : TK n g T o c) : TK n g T (ob o (fun i a r => some (i, a, r))) c := by
  obtain ⟨i', a', x, i2, e, h1, h2⟩ := h
  exact ⟨i', a', x, i2, by rw [e, ob_s], h1, h2⟩
theorem lev_next {f : Nat → Int32} {T : Nat} {k1 k2 k3 k4 k5 k6 k7 k8 k9 k10 w1 w2 w3 w4 w5 w6 w7 w8 : Nat → Int32} {l : Lv} {R : List Lv} {F : List Fr} {q : Nat} (h : lvR f T k1 k2 k3 k4 k5 k6 k7 k8 k9 k10 w1 w2 w3 w4 w5 w6 w7 w8 (l :: R) F) : lvR f T k1 k2 (upd k3 R.length (nI q)) k4 k5 k6 k7 k8 k9 k10 w1 w2 w3 w4 w5 w6 w7 w8 (lSetNx l q :: R) F := by
  rw [lvR] at h ⊢
  obtain ⟨⟨l1, l2, l3, l4⟩, h2⟩ := h
  refine ⟨⟨l1, l2, upd_at, l4⟩, ?_⟩
  have hag : agL R.length k1 k2 k3 k4 k5 k6 k7 k8 k9 k10 w1 w2 w3 w4 w5 w6 w7 w8 k1 k2 (upd k3 R.length (nI q)) k4 k5 k6 k7 k8 k9 k10 := fun d hd => ⟨rfl, rfl, upd_ne (by omega), rfl, rfl, rfl, rfl, rfl, rfl, rfl⟩
  have ek : lK (lSetNx l q) = lK l := rfl
  have em : lMark (lSetNx l q) = lMark l := rfl
  rw [ek, em]
  split at h2
  · next hk =>
    rw [if_pos hk]
    obtain ⟨fr, F', e1, e2, e3, e4⟩ := h2
    exact ⟨fr, F', e1, e2, e3, lvR_keep (Nat.le_refl _) (fun _ _ => rfl) R F' hag agW_refl (fun _ _ => rfl) e4⟩
  · next hk =>
    rw [if_neg hk]
    exact lvR_keep (Nat.le_refl _) (fun _ _ => rfl) R F hag agW_refl (fun _ _ => rfl) h2
theorem lev_push {f : Nat → Int32} {T : Nat} {k1 k2 k3 k4 k5 k6 k7 k8 k9 k10 w1 w2 w3 w4 w5 w6 w7 w8 : Nat → Int32} {l : Lv} {R : List Lv} {F : List Fr} {w : Wt} (h : lvR f T k1 k2 k3 k4 k5 k6 k7 k8 k9 k10 w1 w2 w3 w4 w5 w6 w7 w8 (l :: R) F) (hw : wtR f T w1 w2 w3 w4 w5 w6 w7 w8 (lvWaits (l :: R)) (lvVals (l :: R)) w) : lvR f T k1 k2 k3 k4 k5 k6 k7 k8 k9 k10 w1 w2 w3 w4 w5 w6 w7 w8 (lSetWs l (w :: lWs l) :: R) F := by
  rw [lvR] at h ⊢
  obtain ⟨⟨l1, l2, l3, l4, l5, l6, l7, l8, l9, l10, l11, l12⟩, h2⟩ := h
  refine ⟨⟨l1, l2, l3, l4, l5, l6, l7, l8, l9, l10, l11, ?_, l12⟩, h2⟩
  rw [lvWaits, lvVals] at hw
  rw [show lVals (lSetWs l (w :: lWs l)) = lVals l from rfl, show lvWaits R + (lWs l).length = (lWs l).length + lvWaits R by omega, show lvVals R + (lVals l).length + wsVals (lWs l) = (lVals l).length + wsVals (lWs l) + lvVals R by omega]
  exact hw
/-- a row is written behind all that wait -/
theorem h_meet {n : Nat} {g : Nat → Nat} {i : Nat → Int32} {a : Nat → Nat → Int32} {T : Nat} {G : GS} {N : LN} {F : List Fr} {L : List Lv} {kind code need str : Nat} (h : CI g i a T G N F L) (hW : lvWaits L ≤ 400) (h43 : i 43 = nI (lvVals L)) : ∃ a', m_Waiting_meet n g i a (nI kind) (nI code) (nI need) (nI str) = some (i, a', nI 0) ∧ CI g i a' T G N F L ∧ a' 0 = a 0 ∧ a' 54 = a 54 ∧ (∀ b m, kind ≠ 2 → wtR (a' 0) T (a' 47) (a' 48) (a' 49) (a' 50) (a' 51) (a' 52) (a' 53) (a' 54) (lvWaits L) (lvVals L) (kind, code, need, str, [], b, m)) ∧ (a' 47 (lvWaits L) = nI kind ∧ a' 48 (lvWaits L) = nI code ∧ a' 49 (lvWaits L) = nI need ∧ a' 50 (lvWaits L) = nI str ∧ a' 51 (lvWaits L) = nI (lvVals L)) := by
  have e42 := h.2.2.2.2.2.2.1
  refine ⟨sv (sv (sv (sv (sv a 47 (lvWaits L) (nI kind)) 48 (lvWaits L) (nI code)) 49 (lvWaits L) (nI need)) 50 (lvWaits L) (nI str)) 51 (lvWaits L) (nI (lvVals L)), ?_, ?_, rfl, rfl, ?_, ?_⟩
  · unfold m_Waiting_meet
    simp (disch := omega) only [ob_s, ob0_s, ob1_s, i32_lit, ile_p, ile_n, ilt_p, ilt_n, ieq_p, ieq_n, ck_n, cl_n, sub_n, nI_add, sh_w, sh_l, an3_w, an3_l, an1_w, an1_l, hN_1, hN_3w, hN_3l, if_true, if_false, e42, h43]
  · obtain ⟨b1, b2, b3, b4, b5, b6, b7, b8⟩ := h
    refine ⟨b1, b2, b3, b4, b5, b6, b7, ?_⟩
    exact lvR_keep (Nat.le_refl _) (fun _ _ => rfl) L F agL_refl (fun k hk => ⟨upd_ne (by omega), upd_ne (by omega), upd_ne (by omega), upd_ne (by omega), upd_ne (by omega), rfl, rfl⟩) (fun _ _ => rfl) b8
  · intro b m hk
    exact ⟨upd_at, upd_at, upd_at, upd_at, upd_at, fun e => absurd e hk, fun k hk => absurd hk (Nat.not_lt_zero k)⟩
  · exact ⟨upd_at, upd_at, upd_at, upd_at, upd_at⟩
theorem h_settleLast {n : Nat} {g : Nat → Nat} {i : Nat → Int32} {a : Nat → Nat → Int32} {T : Nat} {G : GS} {N : LN} {F : List Fr} {L : List Lv} {w : Wt} (hn : 200 ≤ n) (h : CI g i a T G N F L) (hl : lvOk F L (nMade N)) (hL : L ≠ []) (h46 : i 46 = nI 0) (h44 : i 44 = nI 0) (h43 : i 43 = nI (lvVals L + (wVals w).length)) (hw : wtR (a 0) T (a 47) (a 48) (a 49) (a 50) (a 51) (a 52) (a 53) (a 54) (lvWaits L) (lvVals L) w) (hk : wK w ≤ 4) (hnd : wNeed w ≤ 5) : TK n g T (m_Waiting_settleLast n g i a) (aSettleLast G N F L w) := by
  have e42 := h.2.2.2.2.2.2.1
  have hW := hl.2.2.1
  have ew1 := hw.1
  have ew3 := hw.2.2.1
  unfold aSettleLast
  rcases Nat.eq_zero_or_pos (wNeed w) with h0 | h0
  · rw [if_pos h0]
    refine TK_el (i := upd i 44 (nI (wK w))) (a := a) ?_ (CR_3 h rfl h43 hw)
    unfold m_Waiting_settleLast
    simp (disch := omega) only [ob_s, ob0_s, ob1_s, i32_lit, ile_p, ile_n, ilt_p, ilt_n, ieq_p, ieq_n, ck_n, cl_n, sub_n, nI_add, sh_w, sh_l, an3_w, an3_l, an1_w, an1_l, hN_1, hN_3w, hN_3l, if_true, if_false, e42, ew3, h0, ew1]
  · rw [if_neg (by omega)]
    rcases Nat.lt_or_ge (lvWaits L) 400 with h4 | h4
    · rw [if_neg (by omega)]
      cases L with
      | nil => exact absurd rfl hL
      | cons l R =>
        show TK n g T _ (G, N, F, lSetWs l (w :: lWs l) :: R, 0, none, none)
        obtain ⟨b1, b2, b3, b4, b5, b6, b7, b8⟩ := h
        have ev : lvVals (lSetWs l (w :: lWs l) :: R) = lvVals (l :: R) + (wVals w).length := by
          show (lVals l).length + ((wVals w).length + wsVals (lWs l)) + lvVals R = (lVals l).length + wsVals (lWs l) + lvVals R + (wVals w).length
          omega
        have ewt : lvWaits (lSetWs l (w :: lWs l) :: R) = lvWaits (l :: R) + 1 := by
          show ((lWs l).length + 1) + lvWaits R = (lWs l).length + lvWaits R + 1
          omega
        refine TK_el (i := upd i 42 (nI (lvWaits (l :: R) + 1))) (a := a) ?_ (CR_0 ⟨b1, b2, b3, b4, b5, b6, ?_, lev_push b8 hw⟩ h46 h44 ?_)
        · unfold m_Waiting_settleLast m_Waiting_settleLast_b38
          simp (disch := omega) only [ob_s, ob0_s, ob1_s, i32_lit, ile_p, ile_n, ilt_p, ilt_n, ieq_p, ieq_n, ck_n, cl_n, sub_n, nI_add, sh_w, sh_l, an3_w, an3_l, an1_w, an1_l, hN_1, hN_3w, hN_3l, if_true, if_false, e42, ew3]
        · rw [ewt]; rfl
        · rw [ev]; exact h43
    · rw [if_pos h4]
      refine TK_er (e := 6) (i := i) (a := a) ?_ hn h hl h44 (by decide) (by decide)
      unfold m_Waiting_settleLast m_Waiting_settleLast_b38
      simp (disch := omega) only [ob_s, ob0_s, ob1_s, i32_lit, ile_p, ile_n, ilt_p, ilt_n, ieq_p, ieq_n, ck_n, cl_n, sub_n, nI_add, sh_w, sh_l, an3_w, an3_l, an1_w, an1_l, hN_1, hN_3w, hN_3l, if_true, if_false, e42, ew3]
theorem h_nfind {n : Nat} {g : Nat → Nat} {i : Nat → Int32} {a : Nat → Nat → Int32} {T : Nat} {G : GS} {N : LN} {F : List Fr} {L : List Lv} {w : Nm} {v : Int32} (hn : 2000 ≤ n) (h : CI g i a T G N F L) (hnd : frNd F) (hv : cV (a 0) T (tW w) none v) : ∃ x, m_Names_find n g i a v = some x ∧ gV (a 0) T (match aFind F (gGlob G) w with
    | none => .error 2
    | some t => .ok (some t)) x := by
  obtain ⟨⟨a1, a2, a3, a4, a5, a6, a7, a8, a9⟩, ⟨b1, b2, b3, b4, b5, b6, b7⟩, c1, ⟨d1, d2, d3⟩, e1⟩ := h
  have hT : T ≤ 340000 := by omega
  obtain ⟨r, q1, q2⟩ := h_findLocal (n := n) (i := i) (lo := 0) a3 a5 (by omega) d1 d2 (by omega) (fun k hk => (d3 k hk).1) hv
  unfold m_Names_find aFind
  rcases q2 with ⟨k, rfl, k1, k2, k3, k4⟩ | ⟨rfl, k1⟩
  · obtain ⟨g1, _⟩ := fGet_last .nil F k hnd k2 k3 k4
    rw [g1]
    have hx := (d3 k k2).2
    cases hf : fVl F k with
    | none =>
      rw [hf] at hx
      have hx : a 13 k = -nI 2147483648 := hx
      refine ⟨-nI 2147483646, ?_, rfl⟩
      simp (disch := omega) only [ob_s, ob0_s, ob1_s, i32_lit, ile_p, ile_n, ilt_p, ilt_n, ieq_p, ieq_n, ck_n, cl_n, sub_n, nI_add, sh_w, sh_l, an3_w, an3_l, an1_w, an1_l, hN_1, hN_3w, hN_3l, if_true, if_false, q1, hx]
    | some t =>
      rw [hf] at hx
      have hx : cV (a 0) T t none (a 13 k) := hx
      have no := cV_no hT hx
      refine ⟨a 13 k, ?_, hx⟩
      simp (disch := omega) only [ob_s, ob0_s, ob1_s, i32_lit, ile_p, ile_n, ilt_p, ilt_n, ieq_p, ieq_n, ck_n, cl_n, sub_n, nI_add, sh_w, sh_l, an3_w, an3_l, an1_w, an1_l, hN_1, hN_3w, hN_3l, if_true, if_false, q1, no]
  · rw [fGet_no F (fun j hj => k1 j (by omega) hj)]
    obtain ⟨s, s1, s2⟩ := h_Names_findGlobal (n := n) (i := i) (nms := (gGlob G).map (·.1)) a3 a5 (by omega) (by rw [List.length_map]; exact b1.1) (by rw [List.length_map]; exact b1.2.1) (fun k hk => by
      rw [List.getElem_map]
      exact (b1.2.2 k (by rw [List.length_map] at hk; exact hk)).1) hv
    rw [i32_lit, q1, ob0_s, if_pos (by decide), s1, ob0_s]
    have bl := b1.2.1
    rcases s2 with ⟨q, hq, rfl, t1, t2⟩ | ⟨rfl, t1⟩
    · rw [List.length_map] at hq
      rw [List.getElem_map] at t1
      obtain ⟨u1, _⟩ := gGet_some (gGlob G) q .nil hq t1 (fun j hj h9 => by
        have := t2 j (by rw [List.length_map]; exact hj) h9
        rw [List.getElem_map] at this
        exact this)
      rw [u1]
      refine ⟨a 11 q, ?_, (b1.2.2 q hq).2⟩
      simp (disch := omega) only [ob_s, ob0_s, ob1_s, i32_lit, ile_p, ile_n, ilt_p, ilt_n, ieq_p, ieq_n, ck_n, cl_n, sub_n, nI_add, sh_w, sh_l, an3_w, an3_l, an1_w, an1_l, hN_1, hN_3w, hN_3l, if_true, if_false]
    · rw [gGet_none (gGlob G) (fun j hj => by
        have := t1 j (by rw [List.length_map]; exact hj)
        rw [List.getElem_map] at this
        exact this)]
      exact ⟨-nI 2147483646, by rw [i32_lit, if_pos (by decide)], rfl⟩
set_option maxRecDepth 20000 in
theorem lexA_kind : ∀ m, m < 86 → 1 ≤ m → lexA.getD m 0 = (aKind m).length := by
  have h : (List.range 86).all (fun c => c == 0 || lexA.getD c 0 == (aKind c).length) = true := by decide +kernel
  intro c h1 h2
  have := List.all_eq_true.mp h c (List.mem_range.mpr h1)
  have e : (c == 0) = false := beq_eq_false_iff_ne.mpr (by omega)
  rw [e, Bool.false_or, beq_iff_eq] at this
  exact this
theorem h_arity {n : Nat} {g : Nat → Nat} {i : Nat → Int32} {a : Nat → Nat → Int32} (hx : lexOk a) {m : Nat} (h1 : 1 ≤ m) (h2 : m < 86) : m_Lexicon_arity n g i a (nI m) = some (nI (aKind m).length) := by
  unfold m_Lexicon_arity
  have e := hx.2.2.1 m h2
  rw [lexA_kind m h2 h1] at e
  simp (disch := omega) only [ob_s, ob0_s, ob1_s, i32_lit, ile_p, ile_n, ilt_p, ilt_n, ieq_p, ieq_n, ck_n, cl_n, sub_n, nI_add, sh_w, sh_l, an3_w, an3_l, an1_w, an1_l, hN_1, hN_3w, hN_3l, if_true, if_false, e]
set_option maxRecDepth 20000 in
theorem aKind_le (m : Nat) : (aKind m).length ≤ 3 := by
  unfold aKind
  have h : aKinds.all (fun k => decide (k.length ≤ 3)) = true := by decide +kernel
  rcases Nat.lt_or_ge (m - 1) aKinds.length with h1 | h1
  · rw [getD_in h1]
    exact of_decide_eq_true (List.all_eq_true.mp h _ (List.getElem_mem h1))
  · rw [getD_out h1]; decide
/-- a procedure that is met -/
theorem h_meetProc {n : Nat} {g : Nat → Nat} {i : Nat → Int32} {a : Nat → Nat → Int32} {T : Nat} {G : GS} {N : LN} {F : List Fr} {L : List Lv} {l : Nm} {v : Int32} (hn : 2000 ≤ n) (h : CI g i a T G N F L) (hl : lvOk F L (nMade N)) (hg : gOk G) (hL : L ≠ []) (h46 : i 46 = nI 0) (h44 : i 44 = nI 0) (h43 : i 43 = nI (lvVals L)) (hv : cV (a 0) T (tW l) none v) : TK n g T (m_Machine_meetProcedure n g i a v) (match pFind (gProcs G) l with
    | none => aFail 1 G N F L
    | some k => match (gProcs G)[k]? with
      | none => aFail 1 G N F L
      | some p => aSettleLast G N F L (2, k, p.2.1.length, 0, [], p.2.1, p.2.2)) := by
  obtain ⟨a1, a2, a3, a4, a5, a6, a7, a8, a9⟩ := h.1
  have b2 := h.2.1.2.1
  have hW := hl.2.2.1
  obtain ⟨s, s1, s2⟩ := h_Procedures_find (n := n) (i := i) (nms := (gProcs G).map (·.1)) a3 a5 (by omega) (by rw [List.length_map]; exact b2.1) (by rw [List.length_map]; exact b2.2.1) (fun k hk => by
    rw [List.getElem_map]
    exact (b2.2.2 k (by rw [List.length_map] at hk; exact hk)).1) hv
  have bl := b2.2.1
  unfold m_Machine_meetProcedure
  rw [s1, ob0_s]
  rcases s2 with ⟨q, hq, rfl, t1, t2⟩ | ⟨rfl, t1⟩
  · rw [List.length_map] at hq
    rw [List.getElem_map] at t1
    have ep := pFind_some (gProcs G) q ⟨hq, t1, fun j hj h9 => by
      have := t2 j (by rw [List.length_map]; exact hj) h9
      rw [List.getElem_map] at this
      exact this⟩
    rw [ep]
    show TK n g T _ (match (gProcs G)[q]? with
      | none => aFail 1 G N F L
      | some p => aSettleLast G N F L (2, q, p.2.1.length, 0, [], p.2.1, p.2.2))
    rw [List.getElem?_eq_getElem hq]
    show TK n g T _ (aSettleLast G N F L (2, q, (gProcs G)[q].2.1.length, 0, [], (gProcs G)[q].2.1, (gProcs G)[q].2.2))
    obtain ⟨r1, r2, r3⟩ := b2.2.2 q hq
    have hp := hg.2.2.1 _ (List.getElem_mem hq)
    have ec := h_count (n := n) (i := i) a3 a5 r2
    rw [tMem_tL, List.length_map] at ec
    obtain ⟨a', m1, m2, m3, m4, m5, m6⟩ := h_meet (n := n) (kind := 2) (code := q) (need := (gProcs G)[q].2.1.length) (str := 0) h hW h43
    have e42 := h.2.2.2.2.2.2.1
    have hc : CI g i (sv (sv a' 52 (lvWaits L) (a 16 q)) 53 (lvWaits L) (a 17 q)) T G N F L := by
      obtain ⟨b1, b2, b3, b4, b5, b6, b7, b8⟩ := m2
      refine ⟨b1, b2, b3, b4, b5, b6, b7, ?_⟩
      exact lvR_keep (Nat.le_refl _) (fun _ _ => rfl) L F agL_refl (fun k hk => ⟨rfl, rfl, rfl, rfl, rfl, upd_ne (by omega), upd_ne (by omega)⟩) (fun _ _ => rfl) b8
    have hrow : wtR (a' 0) T (a' 47) (a' 48) (a' 49) (a' 50) (a' 51) (upd (a' 52) (lvWaits L) (a 16 q)) (upd (a' 53) (lvWaits L) (a 17 q)) (a' 54) (lvWaits L) (lvVals L) (2, q, (gProcs G)[q].2.1.length, 0, [], (gProcs G)[q].2.1, (gProcs G)[q].2.2) := by
      refine ⟨m6.1, m6.2.1, m6.2.2.1, m6.2.2.2.1, m6.2.2.2.2, fun _ => ⟨?_, ?_⟩, fun k hk => absurd hk (Nat.not_lt_zero k)⟩
      · rw [upd_at, m3]; exact r2
      · rw [upd_at, m3]; exact r3
    have hs := h_settleLast (n := n) (w := (2, q, (gProcs G)[q].2.1.length, 0, [], (gProcs G)[q].2.1, (gProcs G)[q].2.2)) (by omega) hc hl hL h46 h44 (by rw [h43]; rfl) hrow (show (2 : Nat) ≤ 4 by decide) hp.1
    have em : m_Waiting_meetCall n g i a (nI q) (a 16 q) (a 17 q) (nI (gProcs G)[q].2.1.length) = some (i, sv (sv a' 52 (lvWaits L) (a 16 q)) 53 (lvWaits L) (a 17 q), nI 0) := by
      unfold m_Waiting_meetCall
      simp (disch := omega) only [ob_s, ob0_s, ob1_s, i32_lit, ile_p, ile_n, ilt_p, ilt_n, ieq_p, ieq_n, ck_n, cl_n, sub_n, nI_add, sh_w, sh_l, an3_w, an3_l, an1_w, an1_l, hN_1, hN_3w, hN_3l, if_true, if_false, e42, m1]
    obtain ⟨i', a9, x, i2, k1, k2, k3⟩ := hs
    refine ⟨i', a9, x, i2, ?_, k2, k3⟩
    simp (disch := omega) only [ob_s, ob0_s, ob1_s, i32_lit, ile_p, ile_n, ilt_p, ilt_n, ieq_p, ieq_n, ck_n, cl_n, sub_n, nI_add, sh_w, sh_l, an3_w, an3_l, an1_w, an1_l, hN_1, hN_3w, hN_3l, if_true, if_false, ec, em, k1]
  · have ep := pFind_none (w := l) (gProcs G) (fun j hj => by
      have := t1 j (by rw [List.length_map]; exact hj)
      rw [List.getElem_map] at this
      exact this)
    rw [ep]
    refine TK_er (e := 1) (i := i) (a := a) ?_ (by omega) h hl h44 (by decide) (by decide)
    simp only [i32_lit]
    rw [if_neg (by decide)]
theorem aQuote_ok (l : List Nat) : rsOk (aQuote l) := by
  unfold aQuote
  split
  · exact ⟨by decide, by decide⟩
  · split
    · trivial
    · trivial
    · exact ⟨by decide, by decide⟩
theorem aLex_34 {c : Nat} {r : List Nat} (h : aLex (c :: r) = 86) : c = 34 := by
  rcases Classical.em (c = 34) with e | e
  · exact e
  · unfold aLex at h
    rw [List.head?_cons, if_neg (by simp [e])] at h
    split at h
    · cases h
    · have := aIx_lt (l := c :: r) aWords 1
      rw [aWords_len] at this
      omega
theorem aLex_58 {c : Nat} {r : List Nat} (h : aLex (c :: r) = 87) : c = 58 := by
  rcases Classical.em (c = 58) with e | e
  · exact e
  · unfold aLex at h
    rw [List.head?_cons] at h
    split at h
    · cases h
    · rw [if_neg (by simp [e])] at h
      have := aIx_lt (l := c :: r) aWords 1
      rw [aWords_len] at this
      omega
theorem h_meetWord {n : Nat} {g : Nat → Nat} {i : Nat → Int32} {a : Nat → Nat → Int32} {T : Nat} {G : GS} {N : LN} {F : List Fr} {L : List Lv} {l : List Nat} {v : Int32} (hn : 2000 ≤ n) (h : CI g i a T G N F L) (hl : lvOk F L (nMade N)) (hg : gOk G) (hL : L ≠ []) (h46 : i 46 = nI 0) (h44 : i 44 = nI 0) (h43 : i 43 = nI (lvVals L)) (hv : cV (a 0) T (tW l) none v) : TK n g T (m_Machine_meetWord n g i a v) (aMeetW G N F L l) := by
  obtain ⟨a1, a2, a3, a4, a5, a6, a7, a8, a9⟩ := h.1
  have hW := hl.2.2.1
  have em := h_meaning (n := n) (i := i) a3 a5 a6 (by omega) hv
  have hlt := aLex_lt l
  have hne : l ≠ [] := by obtain ⟨p, _, q⟩ := cV_tW.mp hv; exact q.2.1
  obtain ⟨c, r, rfl⟩ := List.exists_cons_of_ne_nil hne
  unfold m_Machine_meetWord aMeetW
  dsimp only
  rcases Classical.em (aLex (c :: r) = 86) with e1 | e1
  · rw [if_pos e1]
    have ec := aLex_34 e1
    subst ec
    obtain ⟨x, q1, q2⟩ := h_quoted (n := n) (i := i) a3 a5 (by omega) hv
    refine TK_gv (i := i) (a := a) (x := x) ?_ (by omega) h hl h44 h43 q2 (aQuote_ok _)
    simp (disch := omega) only [ob_s, ob0_s, ob1_s, i32_lit, ile_p, ile_n, ilt_p, ilt_n, ieq_p, ieq_n, ck_n, cl_n, sub_n, nI_add, sh_w, sh_l, an3_w, an3_l, an1_w, an1_l, hN_1, hN_3w, hN_3l, if_true, if_false, em, e1, q1]
  rw [if_neg e1]
  rcases Classical.em (aLex (c :: r) = 87) with e2 | e2
  · rw [if_pos e2]
    have ec := aLex_58 e2
    subst ec
    rw [List.tail_cons]
    obtain ⟨b1, b2⟩ := h_behind (n := n) (i := i) a3 a5 hv (Or.inr rfl)
    rcases Classical.em (r = []) with hr | hr
    · rw [if_pos hr]
      refine TK_er (e := 2) (i := i) (a := a) ?_ (by omega) h hl h44 (by decide) (by decide)
      simp (disch := omega) only [ob_s, ob0_s, ob1_s, i32_lit, ile_p, ile_n, ilt_p, ilt_n, ieq_p, ieq_n, ck_n, cl_n, sub_n, nI_add, sh_w, sh_l, an3_w, an3_l, an1_w, an1_l, hN_1, hN_3w, hN_3l, if_true, if_false, em, e2, b1 hr]
    · rw [if_neg hr]
      obtain ⟨x, q1, q2⟩ := b2 hr
      have no := cV_no (by omega) q2
      obtain ⟨y, q3, q4⟩ := h_nfind (n := n) hn h hl.2.2.2.2.2.2 q2
      cases hf : aFind F (gGlob G) r with
      | none =>
        rw [hf] at q4
        have q4 : y = -nI 2147483646 := q4
        refine TK_er (e := 2) (i := i) (a := a) ?_ (by omega) h hl h44 (by decide) (by decide)
        simp (disch := omega) only [ob_s, ob0_s, ob1_s, i32_lit, ile_p, ile_n, ilt_p, ilt_n, ieq_p, ieq_n, ck_n, cl_n, sub_n, nI_add, sh_w, sh_l, an3_w, an3_l, an1_w, an1_l, hN_1, hN_3w, hN_3l, if_true, if_false, em, e2, q1, no, q3, q4]
      | some t =>
        rw [hf] at q4
        refine TK_gv (i := i) (a := a) (x := y) (r := .ok (some t)) ?_ (by omega) h hl h44 h43 q4 trivial
        simp (disch := omega) only [ob_s, ob0_s, ob1_s, i32_lit, ile_p, ile_n, ilt_p, ilt_n, ieq_p, ieq_n, ck_n, cl_n, sub_n, nI_add, sh_w, sh_l, an3_w, an3_l, an1_w, an1_l, hN_1, hN_3w, hN_3l, if_true, if_false, em, e2, q1, no, q3]
  rw [if_neg e2]
  rcases Classical.em (aLex (c :: r) = 0) with e3 | e3
  · rw [if_pos e3]
    have := h_meetProc hn h hl hg hL h46 h44 h43 hv
    obtain ⟨i', a', x, i2, k1, k2, k3⟩ := this
    refine ⟨i', a', x, i2, ?_, k2, k3⟩
    simp (disch := omega) only [ob_s, ob0_s, ob1_s, i32_lit, ile_p, ile_n, ilt_p, ilt_n, ieq_p, ieq_n, ck_n, cl_n, sub_n, nI_add, sh_w, sh_l, an3_w, an3_l, an1_w, an1_l, hN_1, hN_3w, hN_3l, if_true, if_false, em, e3, k1]
  rw [if_neg e3]
  have row : ∀ (kind code need str : Nat), kind ≠ 2 → kind ≤ 4 → need ≤ 5 → ∃ a', m_Waiting_meet n g i a (nI kind) (nI code) (nI need) (nI str) = some (i, a', nI 0) ∧ TK n g T (m_Waiting_settleLast n g i a') (aSettleLast G N F L (kind, code, need, str, [], [], .nil)) := by
    intro kind code need str hk hk4 hn5
    obtain ⟨a', m1, m2, m3, m4, m5, m6⟩ := h_meet (n := n) (kind := kind) (code := code) (need := need) (str := str) h hW h43
    exact ⟨a', m1, h_settleLast (w := (kind, code, need, str, [], [], .nil)) (by omega) m2 hl hL h46 h44 (by rw [h43]; rfl) (m5 [] .nil hk) hk4 hn5⟩
  have hk3 := aKind_le (aLex (c :: r))
  rcases Nat.lt_or_ge 74 (aLex (c :: r)) with e4 | e4
  · rw [if_neg (by omega)]
    rcases Classical.em (aLex (c :: r) = 75) with e5 | e5
    · rw [if_pos e5]
      obtain ⟨a', m1, i', a9, x, i2, k1, k2, k3⟩ := row 4 75 1 0 (by decide) (by decide) (by decide)
      refine ⟨i', a9, x, i2, ?_, k2, k3⟩
      simp (disch := omega) only [ob_s, ob0_s, ob1_s, i32_lit, ile_p, ile_n, ilt_p, ilt_n, ieq_p, ieq_n, ck_n, cl_n, sub_n, nI_add, sh_w, sh_l, an3_w, an3_l, an1_w, an1_l, hN_1, hN_3w, hN_3l, if_true, if_false, em, e5, m1, k1]
    rw [if_neg e5]
    rcases Classical.em (aLex (c :: r) = 81) with e6 | e6
    · rw [if_pos e6]
      obtain ⟨a', m1, i', a9, x, i2, k1, k2, k3⟩ := row 1 25 1 4 (by decide) (by decide) (by decide)
      refine ⟨i', a9, x, i2, ?_, k2, k3⟩
      simp (disch := omega) only [ob_s, ob0_s, ob1_s, i32_lit, ile_p, ile_n, ilt_p, ilt_n, ieq_p, ieq_n, ck_n, cl_n, sub_n, nI_add, sh_w, sh_l, an3_w, an3_l, an1_w, an1_l, hN_1, hN_3w, hN_3l, if_true, if_false, em, e6, m1, k1]
    rw [if_neg e6]
    rcases Classical.em (aLex (c :: r) = 84 ∨ aLex (c :: r) = 85) with e7 | e7
    · rw [if_pos e7]
      refine TK_er (e := 1) (i := i) (a := a) ?_ (by omega) h hl h44 (by decide) (by decide)
      rcases e7 with e7 | e7
      · simp (disch := omega) only [ob_s, ob0_s, ob1_s, i32_lit, ile_p, ile_n, ilt_p, ilt_n, ieq_p, ieq_n, ck_n, cl_n, sub_n, nI_add, sh_w, sh_l, an3_w, an3_l, an1_w, an1_l, hN_1, hN_3w, hN_3l, if_true, if_false, em, e7]
      · simp (disch := omega) only [ob_s, ob0_s, ob1_s, i32_lit, ile_p, ile_n, ilt_p, ilt_n, ieq_p, ieq_n, ck_n, cl_n, sub_n, nI_add, sh_w, sh_l, an3_w, an3_l, an1_w, an1_l, hN_1, hN_3w, hN_3l, if_true, if_false, em, e7]
    · rw [if_neg e7]
      have e8 : aLex (c :: r) ≠ 84 := fun e => e7 (Or.inl e)
      have e9 : aLex (c :: r) ≠ 85 := fun e => e7 (Or.inr e)
      refine TK_er (e := 4) (i := i) (a := a) ?_ (by omega) h hl h44 (by decide) (by decide)
      simp (disch := omega) only [ob_s, ob0_s, ob1_s, i32_lit, ile_p, ile_n, ilt_p, ilt_n, ieq_p, ieq_n, ck_n, cl_n, sub_n, nI_add, sh_w, sh_l, an3_w, an3_l, an1_w, an1_l, hN_1, hN_3w, hN_3l, if_true, if_false, em]
  · rw [if_pos e4]
    have ea := h_arity (n := n) (g := g) (i := i) a6 (m := aLex (c :: r)) (by omega) (by omega)
    obtain ⟨a', m1, i', a9, x, i2, k1, k2, k3⟩ := row 1 (aLex (c :: r)) (aKind (aLex (c :: r))).length 0 (by decide) (by decide) (by omega)
    refine ⟨i', a9, x, i2, ?_, k2, k3⟩
    simp (disch := omega) only [ob_s, ob0_s, ob1_s, i32_lit, ile_p, ile_n, ilt_p, ilt_n, ieq_p, ieq_n, ck_n, cl_n, sub_n, nI_add, sh_w, sh_l, an3_w, an3_l, an1_w, an1_l, hN_1, hN_3w, hN_3l, if_true, if_false, em, ea, m1, k1]
theorem h_meetM {n : Nat} {g : Nat → Nat} {i : Nat → Int32} {a : Nat → Nat → Int32} {T : Nat} {G : GS} {N : LN} {F : List Fr} {l : Lv} {R : List Lv} (hn : 2000 ≤ n) (h : CI g i a T G N F (l :: R)) (hl : lvOk F (l :: R) (nMade N)) (hg : gOk G) (h46 : i 46 = nI 0) (h44 : i 44 = nI 0) (h43 : i 43 = nI (lvVals (l :: R))) : TK n g T (m_Machine_meet n g i a) (aMeet G N F l R) := by
  obtain ⟨a1, a2, a3, a4, a5, a6, a7, a8, a9⟩ := h.1
  have hlo := hl.1 l List.mem_cons_self
  have hL := hl.2.1
  simp only [List.length_cons] at hL
  have h40 := h.2.2.2.2.1
  have hlv := h.2.2.2.2.2.2.2
  rw [lvR] at hlv
  obtain ⟨l1, l2, l3, l4, l5, l6, l7, l8, l9, l10, l11, l12⟩ := hlv.1
  rw [isL_eq l2 hlo.2.1] at l2
  have e40 : i 40 - nI 1 = nI R.length := by rw [h40, show (l :: R).length = R.length + 1 from rfl, sub_n (by omega), show R.length + 1 - 1 = R.length by omega]
  have h42 := h.2.2.2.2.2.2.1
  have hcnt : (tMem (lLst l)).length ≤ 600 := by
    obtain ⟨p, _, q, _⟩ := cV_tL.mp l2
    exact q.2.2.1
  have hnx := hlo.2.2.1
  unfold m_Machine_meet aMeet
  rcases Nat.lt_or_ge (lNx l) (tMem (lLst l)).length with hk | hk
  · obtain ⟨x, q1, q2⟩ := h_member (n := n) (i := i) a3 a5 l2 hk
    rw [List.getElem?_eq_getElem hk]
    have no := cV_no (by omega) q2
    obtain ⟨kw, _, _⟩ := cV_kinds (by omega) q2 n
    have hci : CI g i (sv a 39 R.length (nI (lNx l + 1))) T G N F (lSetNx l (lNx l + 1) :: R) := by
      obtain ⟨b1, b2, b3, b4, b5, b6, b7, b8⟩ := h
      exact ⟨b1, b2, b3, b4, b5, b6, b7, lev_next b8⟩
    have hlo2 : lvOk F (lSetNx l (lNx l + 1) :: R) (nMade N) := by
      obtain ⟨c1, c2, c3, c4, c5, c6, c7⟩ := hl
      refine ⟨fun x hx => ?_, c2, c3, c4, c5, c6, c7⟩
      rcases List.mem_cons.mp hx with rfl | hx
      · obtain ⟨o1, o2, o3, o4⟩ := hlo
        exact ⟨o1, o2, hk, o4⟩
      · exact c1 x (List.mem_cons_of_mem _ hx)
    show TK n g T _ (if isW (tMem (lLst l))[lNx l] = true then _ else _)
    cases hw : isW (tMem (lLst l))[lNx l] with
    | true =>
      rw [if_pos rfl]
      rw [isW_eq q2 hw] at q2
      obtain ⟨i', a9, y, i2, k1, k2, k3⟩ := h_meetWord (i := i) (a := sv a 39 R.length (nI (lNx l + 1))) hn hci hlo2 hg (by simp) h46 h44 h43 q2
      refine ⟨i', a9, y, i2, ?_, k2, k3⟩
      simp (disch := omega) only [ob_s, ob0_s, ob1_s, i32_lit, ile_p, ile_n, ilt_p, ilt_n, ieq_p, ieq_n, ck_n, cl_n, sub_n, nI_add, sh_w, sh_l, an3_w, an3_l, an1_w, an1_l, hN_1, hN_3w, hN_3l, if_true, if_false, e40, l3, q1, no, kw, hw, b1_t, k1]
    | false =>
      rw [if_neg (by decide)]
      refine TK_gv (i := i) (a := sv a 39 R.length (nI (lNx l + 1))) (x := x) (r := .ok (some (tMem (lLst l))[lNx l])) ?_ (by omega) hci hlo2 h44 h43 q2 trivial
      simp (disch := omega) only [ob_s, ob0_s, ob1_s, i32_lit, ile_p, ile_n, ilt_p, ilt_n, ieq_p, ieq_n, ck_n, cl_n, sub_n, nI_add, sh_w, sh_l, an3_w, an3_l, an1_w, an1_l, hN_1, hN_3w, hN_3l, if_true, if_false, e40, l3, q1, no, kw, hw, b1_f]
  · have q1 := h_member_no (n := n) (i := i) a3 a5 l2 hk (by omega)
    rw [List.getElem?_eq_none hk]
    show TK n g T _ (if lWs l = [] then _ else _)
    rcases Classical.em (lWs l = []) with hw | hw
    · rw [if_pos hw]
      have ew : lvWaits (l :: R) = lvWaits R := by rw [lvWaits, hw]; simp
      refine TK_el (i := upd (upd i 46 (nI 2)) 47 (-nI 2147483648)) (a := a) ?_ (CR_2 h rfl h44 h43 rfl)
      have e42 : i 42 = nI (lvWaits R) := by rw [h42, ew]
      have hW2 := hl.2.2.1
      rw [ew] at hW2
      simp (disch := omega) only [ob_s, ob0_s, ob1_s, i32_lit, ile_p, ile_n, ilt_p, ilt_n, ieq_p, ieq_n, ck_n, cl_n, sub_n, nI_add, sh_w, sh_l, an3_w, an3_l, an1_w, an1_l, hN_1, hN_3w, hN_3l, if_true, if_false, e40, l3, q1, l9, e42, m_Machine_finishGiving]
    · rw [if_neg hw]
      have hW2 := hl.2.2.1
      have ew : lvWaits (l :: R) = (lWs l).length + lvWaits R := rfl
      have hp : 1 ≤ (lWs l).length := by
        rcases Nat.eq_zero_or_pos (lWs l).length with h0 | h0
        · exact absurd (List.length_eq_zero_iff.mp h0) hw
        · exact h0
      refine TK_er (e := 4) (i := i) (a := a) ?_ (by omega) h hl h44 (by decide) (by decide)
      simp (disch := omega) only [ob_s, ob0_s, ob1_s, i32_lit, ile_p, ile_n, ilt_p, ilt_n, ieq_p, ieq_n, ck_n, cl_n, sub_n, nI_add, sh_w, sh_l, an3_w, an3_l, an1_w, an1_l, hN_1, hN_3w, hN_3l, if_true, if_false, e40, l3, q1, l9, h42, ew]

