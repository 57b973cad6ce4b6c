/-! what is ready: its inputs; the words of numbers -/
def INP (g : Nat → Nat) (i : Nat → Int32) (a : Nat → Nat → Int32) (T : Nat) (G : GS) (N : LN) (F : List Fr) (L : List Lv) (vs : List Tr) : Prop :=
  CI g i a T G N F L ∧ lvOk F L (nMade N) ∧ gOk G ∧ nOk N ∧ i 44 = nI 0 ∧ i 43 = nI (lvVals L) ∧ i 46 = nI 0 ∧ lvVals L ≤ 31600 ∧ vsR (a 0) T (a 54) (lvVals L) vs
theorem h_input {n : Nat} {g : Nat → Nat} {i : Nat → Int32} {a : Nat → Nat → Int32} {T : Nat} {G : GS} {N : LN} {F : List Fr} {L : List Lv} {vs : List Tr} {k : Nat} (h : INP g i a T G N F L vs) (hk : k ≤ 100) : ∃ x, m_Waiting_input n g i a (nI k) = some x ∧ (∀ v, vs[k]? = some v → cV (a 0) T v none x) := by
  obtain ⟨h1, h2, h3, h4, h5, h6, h7, h8, h9⟩ := h
  refine ⟨a 54 (lvVals L + k), ?_, fun v hv => ?_⟩
  · unfold m_Waiting_input
    simp (disch := omega) only [ob_s, ob0_s, ob1_s, i32_lit, ile_p, ile_n, ilt_p, ilt_n, ieq_p, ieq_n, ck_n, cl_n, sub_n, nI_add, sh_w, sh_l, an3_w, an3_l, an1_w, an1_l, hN_1, hN_3w, hN_3l, if_true, if_false, h6]
  · have hlt : k < vs.length := by
      rcases Nat.lt_or_ge k vs.length with h | h
      · exact h
      · rw [List.getElem?_eq_none h] at hv; cases hv
    rw [List.getElem?_eq_getElem hlt] at hv
    cases hv
    exact h9 k hlt
theorem h_fits {n : Nat} {g : Nat → Nat} {i : Nat → Int32} {a : Nat → Nat → Int32} {T : Nat} {G : GS} {N : LN} {F : List Fr} {L : List Lv} {c : Nat} {v : Tr} {x : Int32} (hn : 1000 ≤ n) (h : CI g i a T G N F L) (hc : c ≤ 200) (hv : cV (a 0) T v none x) : m_Deeds_fits n g i a (nI c) x = some (b1 (aFit1 c v)) := by
  obtain ⟨a1, a2, a3, a4, a5, a6, a7, a8, a9⟩ := h.1
  obtain ⟨kw, kl, kn⟩ := cV_kinds (by omega) hv n
  unfold m_Deeds_fits
  rcases Classical.em (c = 98) with rfl | c98
  · rw [if_pos (show nI 98 = 98 from rfl), kw, ob0_s, show aFit1 98 v = (isW v && (tLet v == wTrue || tLet v == wFalse)) from rfl]
    cases hw : isW v with
    | false =>
      simp (disch := omega) only [ob_s, ob0_s, ob1_s, i32_lit, ile_p, ile_n, ilt_p, ilt_n, ieq_p, ieq_n, ck_n, cl_n, sub_n, nI_add, sh_w, sh_l, an3_w, an3_l, an1_w, an1_l, hN_1, hN_3w, hN_3l, if_true, if_false, b1_f, Bool.false_and]
    | true =>
      have ev := isW_eq hv hw
      rw [ev] at hv
      have e1 := h_sameWord (n := n) (i := i) a3 a5 (by omega) hv (cV_21 a7 a2.1)
      have e2 := h_sameWord (n := n) (i := i) a3 a5 (by omega) hv (cV_21 a8 a2.1)
      rcases Classical.em (tLet v = wTrue) with ht | ht
      · simp (disch := omega) only [ob_s, ob0_s, ob1_s, i32_lit, ile_p, ile_n, ilt_p, ilt_n, ieq_p, ieq_n, ck_n, cl_n, sub_n, nI_add, sh_w, sh_l, an3_w, an3_l, an1_w, an1_l, hN_1, hN_3w, hN_3l, if_true, if_false, b1_t, e1, ht, decide_true, Bool.true_and, BEq.rfl, Bool.true_or]
      · have ht' : (tLet v == wTrue) = false := beq_eq_false_iff_ne.mpr ht
        rcases Classical.em (tLet v = wFalse) with hf | hf
        · have hf' : (tLet v == wFalse) = true := beq_iff_eq.mpr hf
          rw [ht', hf', e1, e2]
          simp (disch := omega) only [ob_s, ob0_s, ob1_s, i32_lit, ile_p, ile_n, ilt_p, ilt_n, ieq_p, ieq_n, ck_n, cl_n, sub_n, nI_add, sh_w, sh_l, an3_w, an3_l, an1_w, an1_l, hN_1, hN_3w, hN_3l, if_true, if_false, b1_t, ht, decide_false, b1_f, hf, decide_true, Bool.true_and, Bool.false_or, show ¬ wFalse = wTrue by decide]
        · have hf' : (tLet v == wFalse) = false := beq_eq_false_iff_ne.mpr hf
          rw [ht', hf', e1, e2]
          simp (disch := omega) only [ob_s, ob0_s, ob1_s, i32_lit, ile_p, ile_n, ilt_p, ilt_n, ieq_p, ieq_n, ck_n, cl_n, sub_n, nI_add, sh_w, sh_l, an3_w, an3_l, an1_w, an1_l, hN_1, hN_3w, hN_3l, if_true, if_false, b1_t, ht, decide_false, b1_f, hf, Bool.true_and, Bool.false_or]
  rw [if_neg (show ¬ nI c = 98 from fun e => c98 ((nI_eq (by omega) (by omega)).mp e))]
  rcases Classical.em (c = 108) with rfl | c108
  · rw [if_pos (show nI 108 = 108 from rfl), kl, ob0_s, show aFit1 108 v = isL v from rfl]
    cases isL v <;> rfl
  rw [if_neg (show ¬ nI c = 108 from fun e => c108 ((nI_eq (by omega) (by omega)).mp e))]
  rcases Classical.em (c = 110) with rfl | c110
  · rw [if_pos (show nI 110 = 110 from rfl), kn, ob0_s, show aFit1 110 v = isN v from rfl]
    cases isN v <;> rfl
  rw [if_neg (show ¬ nI c = 110 from fun e => c110 ((nI_eq (by omega) (by omega)).mp e))]
  rcases Classical.em (c = 116) with rfl | c116
  · rw [if_pos (show nI 116 = 116 from rfl), kl, ob0_s, show aFit1 116 v = !isL v from rfl]
    cases isL v <;> rfl
  rw [if_neg (show ¬ nI c = 116 from fun e => c116 ((nI_eq (by omega) (by omega)).mp e))]
  rcases Classical.em (c = 119) with rfl | c119
  · rw [if_pos (show nI 119 = 119 from rfl), kw, ob0_s, show aFit1 119 v = isW v from rfl]
    cases isW v <;> rfl
  rw [if_neg (show ¬ nI c = 119 from fun e => c119 ((nI_eq (by omega) (by omega)).mp e)), show aFit1 c v = true by unfold aFit1; rw [if_neg c110, if_neg c108, if_neg c119, if_neg c116, if_neg c98]]
  rfl
set_option maxRecDepth 20000 in
theorem lexK_kind : ∀ m, m < 86 → 1 ≤ m → ∀ k, (h : k < (aKind m).length) → lexK.getD (m * 3 + k) 0 = (aKind m)[k] ∧ (aKind m)[k] ≤ 200 := by
  have h : (List.range 86).all (fun c => c == 0 || (List.range (aKind c).length).all (fun k => lexK.getD (c * 3 + k) 0 == (aKind c).getD k 0 && decide ((aKind c).getD k 0 ≤ 200))) = true := by decide +kernel
  intro c h1 h2 k hk
  have := List.all_eq_true.mp h c (List.mem_range.mpr h1)
  have e : (c == 0) = false := beq_eq_false_iff_ne.mpr (by omega)
  rw [e, Bool.false_or] at this
  have := List.all_eq_true.mp this k (List.mem_range.mpr hk)
  rw [Bool.and_eq_true, beq_iff_eq, decide_eq_true_eq, getD_in hk] at this
  exact this
theorem aFits_step {ks : List Nat} {vs : List Tr} {k : Nat} (hk : k < ks.length) (hl : vs.length = ks.length) : aFits (ks.drop k) (vs.drop k) = (aFit1 ks[k] vs[k] && aFits (ks.drop (k + 1)) (vs.drop (k + 1))) := by
  rw [List.drop_eq_getElem_cons hk, List.drop_eq_getElem_cons (show k < vs.length by omega)]
  rfl
theorem h_inputsFit_b {n : Nat} {g : Nat → Nat} {i : Nat → Int32} {a : Nat → Nat → Int32} {T : Nat} {G : GS} {N : LN} {F : List Fr} {L : List Lv} {vs : List Tr} {code : Nat} (hn : 1000 ≤ n) (h : INP g i a T G N F L vs) (h1 : 1 ≤ code) (h2 : code < 86) (hl : vs.length = (aKind code).length) : ∀ (m k f : Nat), (aKind code).length = k + m → m < f → m_Deeds_inputsFit_b14 n g i a f (nI code) (nI (aKind code).length) (nI k) = some (b1 (aFits ((aKind code).drop k) (vs.drop k))) := by
  have h3 := aKind_le code
  intro m
  induction m with
  | zero =>
    intro k f e hf
    obtain ⟨f, rfl⟩ : ∃ f', f = f' + 1 := ⟨f - 1, by omega⟩
    rw [m_Deeds_inputsFit_b14, List.drop_eq_nil_of_le (by omega)]
    simp (disch := omega) only [ob_s, ob0_s, ob1_s, i32_lit, ile_p, ile_n, ilt_p, ilt_n, ieq_p, ieq_n, ck_n, cl_n, sub_n, nI_add, sh_w, sh_l, an3_w, an3_l, an1_w, an1_l, hN_1, hN_3w, hN_3l, if_true, if_false]
    rfl
  | succ m ih =>
    intro k f e hf
    obtain ⟨f, rfl⟩ : ∃ f', f = f' + 1 := ⟨f - 1, by omega⟩
    have hk : k < (aKind code).length := by omega
    obtain ⟨x, q1, q2⟩ := h_input (n := n) (k := k) h (by omega)
    have q2 := q2 vs[k] (List.getElem?_eq_getElem (by omega))
    obtain ⟨e1, e2⟩ := lexK_kind code h2 h1 k hk
    have e3 := h.1.1.2.2.2.2.2.1.2.2.2.1 (code * 3 + k) (by omega)
    rw [e1] at e3
    have ek : m_Lexicon_kind n g i a (nI code) (nI k) = some (nI (aKind code)[k]) := by
      unfold m_Lexicon_kind
      simp (disch := omega) only [ob_s, ob0_s, ob1_s, i32_lit, ile_p, ile_n, ilt_p, ilt_n, ieq_p, ieq_n, ck_n, cl_n, sub_n, nI_add, sh_w, sh_l, an3_w, an3_l, an1_w, an1_l, hN_1, hN_3w, hN_3l, if_true, if_false, pk_mul, e3]
    have ef := h_fits (n := n) (c := (aKind code)[k]) hn h.1 e2 q2
    rw [m_Deeds_inputsFit_b14, aFits_step hk hl]
    cases hb : aFit1 (aKind code)[k] vs[k] with
    | true =>
      simp (disch := omega) only [ob_s, ob0_s, ob1_s, i32_lit, ile_p, ile_n, ilt_p, ilt_n, ieq_p, ieq_n, ck_n, cl_n, sub_n, nI_add, sh_w, sh_l, an3_w, an3_l, an1_w, an1_l, hN_1, hN_3w, hN_3l, if_true, if_false, ek, q1, ef, hb, b1_t, Bool.true_and]
      exact ih (k + 1) f (by omega) (by omega)
    | false =>
      simp (disch := omega) only [ob_s, ob0_s, ob1_s, i32_lit, ile_p, ile_n, ilt_p, ilt_n, ieq_p, ieq_n, ck_n, cl_n, sub_n, nI_add, sh_w, sh_l, an3_w, an3_l, an1_w, an1_l, hN_1, hN_3w, hN_3l, if_true, if_false, ek, q1, ef, hb, b1_f, Bool.false_and]
theorem h_inputsFit {n : Nat} {g : Nat → Nat} {i : Nat → Int32} {a : Nat → Nat → Int32} {T : Nat} {G : GS} {N : LN} {F : List Fr} {L : List Lv} {vs : List Tr} {code : Nat} (hn : 1000 ≤ n) (h : INP g i a T G N F L vs) (h1 : 1 ≤ code) (h2 : code < 86) (hl : vs.length = (aKind code).length) : m_Deeds_inputsFit n g i a (nI code) = some (b1 (aFits (aKind code) vs)) := by
  unfold m_Deeds_inputsFit
  have ea := h_arity (n := n) (g := g) (i := i) h.1.1.2.2.2.2.2.1 h1 h2
  have := h_inputsFit_b (n := n) hn h h1 h2 hl (aKind code).length 0 n (by omega) (by have := aKind_le code; omega)
  rw [ea, ob0_s, i32_lit]
  exact this
/-! numbers of 64 bits -/
theorem l64_int {z : Int} (h1 : -9000000000000000000 ≤ z) (h2 : z ≤ 9000000000000000000) : (Int64.ofInt z).toInt = z := Int64.toInt_ofInt_of_le (by show -9223372036854775808 ≤ _; omega) (by show _ < 9223372036854775808; omega)
theorem i32_int {z : Int} (h1 : -2147483648 ≤ z) (h2 : z ≤ 2147483647) : (Int32.ofInt z).toInt = z := Int32.toInt_ofInt_of_le (by show -2147483648 ≤ _; omega) (by show _ < 2147483648; omega)
theorem hN_32 {x : Int} (h1 : -1000000000 ≤ x) (h2 : x ≤ 1000000000) : hN x >>> (nI 1 &&& nI 31) = Int32.ofInt x := by
  apply Int32.toInt_inj.mp
  rw [hN_half h1 h2, i32_int (by omega) (by omega)]
theorem i32_64 {x : Int} (h1 : -2147483648 ≤ x) (h2 : x ≤ 2147483647) : (Int32.ofInt x).toInt64 = Int64.ofInt x := by
  apply Int64.toInt_inj.mp
  rw [Int32.toInt_toInt64, i32_int h1 h2, l64_int (by omega) (by omega)]
theorem lg_le {a b : Int} (ha : -9000000000000000000 ≤ a ∧ a ≤ 9000000000000000000) (hb : -9000000000000000000 ≤ b ∧ b ≤ 9000000000000000000) : (lg_cmp (Int64.ofInt a) (Int64.ofInt b) ≤ 0) ↔ a ≤ b := by
  rw [lg_cmp_le, Int64.le_iff_toInt_le, l64_int ha.1 ha.2, l64_int hb.1 hb.2]
theorem lg_lt {a b : Int} (ha : -9000000000000000000 ≤ a ∧ a ≤ 9000000000000000000) (hb : -9000000000000000000 ≤ b ∧ b ≤ 9000000000000000000) : (lg_cmp (Int64.ofInt a) (Int64.ofInt b) < 0) ↔ a < b := by
  rw [lg_cmp_lt, Int64.lt_iff_toInt_lt, l64_int ha.1 ha.2, l64_int hb.1 hb.2]
theorem lg_ge {a b : Int} (ha : -9000000000000000000 ≤ a ∧ a ≤ 9000000000000000000) (hb : -9000000000000000000 ≤ b ∧ b ≤ 9000000000000000000) : (0 ≤ lg_cmp (Int64.ofInt a) (Int64.ofInt b)) ↔ b ≤ a := by
  rw [lg_cmp_ge, Int64.le_iff_toInt_le, l64_int ha.1 ha.2, l64_int hb.1 hb.2]
theorem lg_gt {a b : Int} (ha : -9000000000000000000 ≤ a ∧ a ≤ 9000000000000000000) (hb : -9000000000000000000 ≤ b ∧ b ≤ 9000000000000000000) : (0 < lg_cmp (Int64.ofInt a) (Int64.ofInt b)) ↔ b < a := by
  rw [lg_cmp_gt, Int64.lt_iff_toInt_lt, l64_int ha.1 ha.2, l64_int hb.1 hb.2]
theorem lg_eq {a b : Int} (ha : -9000000000000000000 ≤ a ∧ a ≤ 9000000000000000000) (hb : -9000000000000000000 ≤ b ∧ b ≤ 9000000000000000000) : (lg_cmp (Int64.ofInt a) (Int64.ofInt b) = 0) ↔ a = b := by
  constructor
  · intro e
    have h1 := (lg_le ha hb).mp (by rw [e]; decide)
    have h2 := (lg_ge ha hb).mp (by rw [e]; decide)
    omega
  · intro e
    subst e
    unfold lg_cmp
    rw [if_neg, if_pos rfl]
    intro h
    have : (Int64.ofInt a).toInt < (Int64.ofInt a).toInt := Int64.lt_iff_toInt_lt.mp h
    omega
/-- within bounds, or no number -/
def ibR (z : Int) : Int32 := if z < -1000000000 ∨ 1000000000 < z then -nI 2147483639 else hN z
theorem h_inB {n : Nat} {z : Int} (h1 : -9000000000000000000 ≤ z) (h2 : z ≤ 9000000000000000000) : m_Deeds_inBounds n (Int64.ofInt z) = some (ibR z) := by
  unfold m_Deeds_inBounds ibR
  have e1 : (-1000000000 : Int64) = Int64.ofInt (-1000000000) := by decide
  have e2 : (1000000000 : Int64) = Int64.ofInt 1000000000 := by decide
  rw [e1, e2]
  rcases Classical.em (z < -1000000000) with c1 | c1
  · rw [if_pos ((lg_lt ⟨h1, h2⟩ ⟨by decide, by decide⟩).mpr c1), if_pos (Or.inl c1)]
    rfl
  · rw [if_neg (fun e => c1 ((lg_lt ⟨h1, h2⟩ ⟨by decide, by decide⟩).mp e))]
    rcases Classical.em (1000000000 < z) with c2 | c2
    · rw [if_neg (fun e => by have := (lg_le ⟨h1, h2⟩ ⟨by decide, by decide⟩).mp e; omega), if_pos (Or.inr c2)]
      rfl
    · rw [if_pos ((lg_le ⟨h1, h2⟩ ⟨by decide, by decide⟩).mpr (by omega)), if_neg (by omega)]
      unfold m_Heap_number
      rw [ob0_s, Int64.toInt32_ofInt]
      simp only [i32_lit]
      rw [hN_sh rfl]
theorem gV_inB {f : Nat → Int32} {T : Nat} {z : Int} : gV f T (match inB z with
    | .ok t => .ok (some t)
    | .error e => .error e) (ibR z) := by
  unfold inB ibR
  rcases Classical.em (z < -1000000000 ∨ 1000000000 < z) with h | h
  · rw [if_pos h, if_pos h]
    rfl
  · rw [if_neg h, if_neg h]
    exact (show cV f T (tN z) none (hN z) from cV_tN.mpr ⟨by omega, by omega, rfl⟩)
theorem h_truth {n : Nat} {g : Nat → Nat} {i : Nat → Int32} {a : Nat → Nat → Int32} {T : Nat} {G : GS} {N : LN} {F : List Fr} {L : List Lv} {b : Bool} (h : CI g i a T G N F L) : ∃ x, m_Heap_truth n g i a (b1 b) = some x ∧ gV (a 0) T (.ok (some (aTruth b))) x := by
  obtain ⟨a1, a2, a3, a4, a5, a6, a7, a8, a9⟩ := h.1
  unfold m_Heap_truth
  cases b with
  | true =>
    refine ⟨i 4, ?_, cV_21 a7 a2.1⟩
    rw [b1_t, i32_lit, if_neg (by decide)]
  | false =>
    refine ⟨i 5, ?_, cV_21 a8 a2.1⟩
    rw [b1_f, i32_lit, if_pos rfl]
theorem h_isTrue {n : Nat} {g : Nat → Nat} {i : Nat → Int32} {a : Nat → Nat → Int32} {T : Nat} {G : GS} {N : LN} {F : List Fr} {L : List Lv} {vs : List Tr} {k : Nat} {v : Tr} (hn : 1000 ≤ n) (h : INP g i a T G N F L vs) (hk : k ≤ 100) (hv : vs[k]? = some v) (hw : isW v = true) : m_Deeds_isTrue n g i a (nI k) = some (b1 (tLet v == wTrue)) := by
  obtain ⟨x, q1, q2⟩ := h_input (n := n) (k := k) h hk
  have q2 := q2 v hv
  obtain ⟨a1, a2, a3, a4, a5, a6, a7, a8, a9⟩ := h.1.1
  rw [isW_eq q2 hw] at q2
  have e := h_sameWord (n := n) (i := i) a3 a5 (by omega) q2 (cV_21 a7 a2.1)
  unfold m_Deeds_isTrue
  rw [q1, ob0_s, e, ob0_s]
  rcases Classical.em (tLet v = wTrue) with ht | ht
  · rw [ht]
    rfl
  · have ht' : (tLet v == wTrue) = false := beq_eq_false_iff_ne.mpr ht
    rw [ht', decide_eq_false ht]
    rfl
theorem aTruth_ok (b : Bool) : rsOk (.ok (some (aTruth b))) := trivial
theorem isN_num {f : Nat → Int32} {T : Nat} {v : Tr} {x : Int32} (h : cV f T v none x) (hn : isN v = true) : v = tN (tNum v) ∧ -1000000000 ≤ tNum v ∧ tNum v ≤ 1000000000 ∧ x = hN (tNum v) := by
  rcases cV_cases h with ⟨k, rfl, h1, h2, rfl⟩ | ⟨l, p, rfl, rfl, h3⟩ | ⟨ms, p, rfl, rfl, h3, h4⟩
  · exact ⟨rfl, h1, h2, rfl⟩
  · rw [isN_tW] at hn; cases hn
  · rw [isN_tL] at hn; cases hn
theorem l64_tdiv {x y : Int} (hx : -1000000000 ≤ x ∧ x ≤ 1000000000) (hy : -1000000000 ≤ y ∧ y ≤ 1000000000) : Int64.ofInt x / Int64.ofInt y = Int64.ofInt (x.tdiv y) ∧ -1000000000 ≤ x.tdiv y ∧ x.tdiv y ≤ 1000000000 := by
  have hb : (x.tdiv y).natAbs ≤ x.natAbs := by
    rw [Int.natAbs_tdiv]
    exact Nat.div_le_self _ _
  have b1 : -1000000000 ≤ x.tdiv y := by omega
  have b2 : x.tdiv y ≤ 1000000000 := by omega
  refine ⟨?_, b1, b2⟩
  apply Int64.toInt_inj.mp
  rw [Int64.toInt_div, l64_int (by omega) (by omega), l64_int (by omega) (by omega), l64_int (by omega) (by omega)]
  exact Int.bmod_eq_of_le (by show -9223372036854775808 ≤ _; omega) (by show _ < 9223372036854775808; omega)

theorem inB_ok (z : Int) : rsOk (match inB z with
    | .ok t => .ok (some t)
    | .error e => .error e) := by
  unfold inB
  rcases Classical.em (z < -1000000000 ∨ 1000000000 < z) with h | h
  · rw [if_pos h]
    exact ⟨by decide, by decide⟩
  · rw [if_neg h]
    trivial
theorem mul_bd {x y : Int} (hx : -1000000000 ≤ x ∧ x ≤ 1000000000) (hy : -1000000000 ≤ y ∧ y ≤ 1000000000) : -1000000000000000000 ≤ x * y ∧ x * y ≤ 1000000000000000000 := by
  have h : (x * y).natAbs ≤ 1000000000 * 1000000000 := by
    rw [Int.natAbs_mul]
    exact Nat.mul_le_mul (by omega) (by omega)
  omega
theorem tmod_bd {x y : Int} (hx : -1000000000 ≤ x ∧ x ≤ 1000000000) (hz : ¬ y = 0) (hy : -1000000000 ≤ y ∧ y ≤ 1000000000) : -1000000000 ≤ x.tmod y ∧ x.tmod y ≤ 1000000000 := by
  have h : (x.tmod y).natAbs ≤ x.natAbs := by
    rw [Int.natAbs_tmod]
    exact Nat.mod_le _ _
  omega
theorem h_numberWord {n : Nat} {g : Nat → Nat} {i : Nat → Int32} {a : Nat → Nat → Int32} {T : Nat} {G : GS} {N : LN} {F : List Fr} {L : List Lv} {vs : List Tr} {code : Nat} {u v : Tr} (hn : 1000 ≤ n) (h : INP g i a T G N F L vs) (h1 : 20 ≤ code) (h2 : code ≤ 31) (hv : vs.getD 0 .nil = v) (hu : vs.getD 1 .nil = u) (hl : vs.length = (aKind code).length) (hf : aFits (aKind code) vs = true) : TK n g T (m_Deeds_numberWord n g i a (nI code)) (retG G N F L (aNumber code (tNum v) (tNum u) v u G)) := by
  obtain ⟨x, q1, q2⟩ := h_input (n := n) (k := 0) h (by decide)
  obtain ⟨y, q3, q4⟩ := h_input (n := n) (k := 1) h (by decide)
  have hI := h
  obtain ⟨hc, hl9, hg, hNn, h44, h43, h46, hroom, hvs⟩ := h
  have give : ∀ (r : Rs) (z : Int32) (o : Option ((Nat → Int32) × (Nat → Nat → Int32) × Int32)), o = some (i, a, z) → gV (a 0) T r z → rsOk r → TK n g T o (aTake G N F L r) := fun r z o ho hz hr => TK_gv ho (by omega) hc hl9 h44 h43 hz hr
  have nn : ∀ (hk : aKind code = [110, 110]), v = tN (tNum v) ∧ u = tN (tNum u) ∧ (-1000000000 ≤ tNum v ∧ tNum v ≤ 1000000000) ∧ (-1000000000 ≤ tNum u ∧ tNum u ≤ 1000000000) ∧ x = hN (tNum v) ∧ y = hN (tNum u) := by
    intro hk
    rw [hk] at hl hf
    obtain ⟨v', u', rfl⟩ : ∃ v' u', vs = [v', u'] := by
      match vs, hl with
      | [p, q], _ => exact ⟨p, q, rfl⟩
    have hv : v' = v := hv
    have hu : u' = u := hu
    subst hv hu
    have hf : (isN v' && (isN u' && true)) = true := hf
    rw [Bool.and_eq_true, Bool.and_eq_true] at hf
    obtain ⟨w1, w2, w3, w4⟩ := isN_num (q2 v' rfl) hf.1
    obtain ⟨z1, z2, z3, z4⟩ := isN_num (q4 u' rfl) hf.2.1
    exact ⟨w1, z1, ⟨w2, w3⟩, ⟨z2, z3⟩, w4, z4⟩
  have n1 : ∀ (hk : aKind code = [110]), v = tN (tNum v) ∧ (-1000000000 ≤ tNum v ∧ tNum v ≤ 1000000000) ∧ x = hN (tNum v) := by
    intro hk
    rw [hk] at hl hf
    obtain ⟨v', rfl⟩ : ∃ v', vs = [v'] := by
      match vs, hl with
      | [p], _ => exact ⟨p, rfl⟩
    have hv : v' = v := hv
    subst hv
    have hf : (isN v' && true) = true := hf
    rw [Bool.and_eq_true] at hf
    obtain ⟨w1, w2, w3, w4⟩ := isN_num (q2 v' rfl) hf.1
    exact ⟨w1, ⟨w2, w3⟩, w4⟩
  have bb : ∀ (hk : aKind code = [98, 98]), m_Deeds_isTrue n g i a (nI 0) = some (b1 (tLet v == wTrue)) ∧ m_Deeds_isTrue n g i a (nI 1) = some (b1 (tLet u == wTrue)) := by
    intro hk
    rw [hk] at hl hf
    obtain ⟨v', u', rfl⟩ : ∃ v' u', vs = [v', u'] := by
      match vs, hl with
      | [p, q], _ => exact ⟨p, q, rfl⟩
    have hv : v' = v := hv
    have hu : u' = u := hu
    subst hv hu
    have hf : ((isW v' && (tLet v' == wTrue || tLet v' == wFalse)) && ((isW u' && (tLet u' == wTrue || tLet u' == wFalse)) && true)) = true := hf
    rw [Bool.and_eq_true, Bool.and_eq_true, Bool.and_eq_true, Bool.and_eq_true] at hf
    exact ⟨h_isTrue hn hI (by decide) rfl hf.1.1, h_isTrue hn hI (by decide) rfl hf.2.1.1⟩
  unfold m_Deeds_numberWord
  rw [show (0 : Int32) = nI 0 from rfl, show (1 : Int32) = nI 1 from rfl, q1, ob0_s, ob1_s, q3, ob0_s, ob1_s]
  rcases (by omega : code = 20 ∨ code = 21 ∨ code = 22 ∨ code = 23 ∨ code = 24 ∨ code = 25 ∨ code = 26 ∨ code = 27 ∨ code = 28 ∨ code = 29 ∨ code = 30 ∨ code = 31) with rfl | rfl | rfl | rfl | rfl | rfl | rfl | rfl | rfl | rfl | rfl | rfl

  · obtain ⟨w1, w2, hx, hy, rfl, rfl⟩ := nn rfl
    rw [if_pos (show nI 20 = (20 : Int32) from rfl), show (31 : Int32) = nI 31 from rfl, hN_32 hx.1 hx.2, hN_32 hy.1 hy.2, i32_64 (by omega) (by omega), i32_64 (by omega) (by omega), ← Int64.ofInt_add, h_inB (by omega) (by omega), ob0_s]
    refine cast ?_ (give (match inB (tNum v + tNum u) with
      | .ok t => .ok (some t)
      | .error e => .error e) _ _ rfl gV_inB (inB_ok _))
    congr 1
    show _ = retG G N F L (aNumber 20 (tNum v) (tNum u) v u G)
    unfold aNumber
    simp only [Nat.reduceEqDiff, if_true, if_false]
    cases inB (tNum v + tNum u) <;> rfl
  · obtain ⟨w1, w2, hx, hy, rfl, rfl⟩ := nn rfl
    rw [if_neg (show ¬ nI 21 = (20 : Int32) by decide), if_pos (show nI 21 = (21 : Int32) from rfl), show (31 : Int32) = nI 31 from rfl, hN_32 hx.1 hx.2, hN_32 hy.1 hy.2, i32_64 (by omega) (by omega), i32_64 (by omega) (by omega), ← Int64.ofInt_sub, h_inB (by omega) (by omega), ob0_s]
    refine cast ?_ (give (match inB (tNum v - tNum u) with
      | .ok t => .ok (some t)
      | .error e => .error e) _ _ rfl gV_inB (inB_ok _))
    congr 1
    show _ = retG G N F L (aNumber 21 (tNum v) (tNum u) v u G)
    unfold aNumber
    simp only [Nat.reduceEqDiff, if_true, if_false]
    cases inB (tNum v - tNum u) <;> rfl
  · obtain ⟨w1, w2, hx, hy, rfl, rfl⟩ := nn rfl
    rw [if_neg (show ¬ nI 22 = (20 : Int32) by decide), if_neg (show ¬ nI 22 = (21 : Int32) by decide), if_pos (show nI 22 = (22 : Int32) from rfl), show (31 : Int32) = nI 31 from rfl, hN_32 hx.1 hx.2, hN_32 hy.1 hy.2, i32_64 (by omega) (by omega), i32_64 (by omega) (by omega), ← Int64.ofInt_mul, h_inB (by have := mul_bd hx hy; omega) (by have := mul_bd hx hy; omega), ob0_s]
    refine cast ?_ (give (match inB (tNum v * tNum u) with
      | .ok t => .ok (some t)
      | .error e => .error e) _ _ rfl gV_inB (inB_ok _))
    congr 1
    show _ = retG G N F L (aNumber 22 (tNum v) (tNum u) v u G)
    unfold aNumber
    simp only [Nat.reduceEqDiff, if_true, if_false]
    cases inB (tNum v * tNum u) <;> rfl
  · obtain ⟨w1, w2, hx, hy, rfl, rfl⟩ := nn rfl
    rw [if_neg (show ¬ nI 23 = (20 : Int32) by decide), if_neg (show ¬ nI 23 = (21 : Int32) by decide), if_neg (show ¬ nI 23 = (22 : Int32) by decide), if_pos (show nI 23 = (23 : Int32) from rfl), show (31 : Int32) = nI 31 from rfl, hN_32 hx.1 hx.2, hN_32 hy.1 hy.2, i32_64 (by omega) (by omega), i32_64 (by omega) (by omega)]
    have z0 : (0 : Int64) = Int64.ofInt 0 := by decide
    rw [z0]
    rcases Classical.em (tNum u = 0) with hz | hz
    · rw [if_pos (show lg_cmp (Int64.ofInt (tNum u)) (Int64.ofInt 0) = nI 0 from (lg_eq ⟨by omega, by omega⟩ ⟨by decide, by decide⟩).mpr hz)]
      refine cast ?_ (give (.error 10) _ _ rfl rfl ⟨by decide, by decide⟩)
      congr 1
      show _ = retG G N F L (aNumber 23 (tNum v) (tNum u) v u G)
      unfold aNumber
      simp only [Nat.reduceEqDiff, if_true, if_false, hz]
      rfl
    · rw [if_neg (show ¬ lg_cmp (Int64.ofInt (tNum u)) (Int64.ofInt 0) = nI 0 from fun e => hz ((lg_eq ⟨by omega, by omega⟩ ⟨by decide, by decide⟩).mp e))]
      have hnz : ¬ Int64.ofInt (tNum u) = 0 := by
        intro e
        have := congrArg Int64.toInt e
        rw [l64_int (by omega) (by omega)] at this
        exact hz this
      obtain ⟨t1, t2, t3⟩ := l64_tdiv hx hy
      unfold czl
      rw [if_neg hnz, t1, h_inB (by omega) (by omega), ob0_s]
      refine cast ?_ (give (match inB ((tNum v).tdiv (tNum u)) with
        | .ok t => .ok (some t)
        | .error e => .error e) _ _ rfl gV_inB (inB_ok _))
      congr 1
      show _ = retG G N F L (aNumber 23 (tNum v) (tNum u) v u G)
      unfold aNumber
      simp only [Nat.reduceEqDiff, if_true, if_false, hz]
      cases inB ((tNum v).tdiv (tNum u)) <;> rfl
  · obtain ⟨w1, w2, hx, hy, rfl, rfl⟩ := nn rfl
    rw [if_neg (show ¬ nI 24 = (20 : Int32) by decide), if_neg (show ¬ nI 24 = (21 : Int32) by decide), if_neg (show ¬ nI 24 = (22 : Int32) by decide), if_neg (show ¬ nI 24 = (23 : Int32) by decide), if_pos (show nI 24 = (24 : Int32) from rfl), show (31 : Int32) = nI 31 from rfl, hN_32 hx.1 hx.2, hN_32 hy.1 hy.2, i32_64 (by omega) (by omega), i32_64 (by omega) (by omega)]
    have z0 : (0 : Int64) = Int64.ofInt 0 := by decide
    rw [z0]
    rcases Classical.em (tNum u = 0) with hz | hz
    · rw [if_pos (show lg_cmp (Int64.ofInt (tNum u)) (Int64.ofInt 0) = nI 0 from (lg_eq ⟨by omega, by omega⟩ ⟨by decide, by decide⟩).mpr hz)]
      refine cast ?_ (give (.error 10) _ _ rfl rfl ⟨by decide, by decide⟩)
      congr 1
      show _ = retG G N F L (aNumber 24 (tNum v) (tNum u) v u G)
      unfold aNumber
      simp only [Nat.reduceEqDiff, if_true, if_false, hz]
      rfl
    · rw [if_neg (show ¬ lg_cmp (Int64.ofInt (tNum u)) (Int64.ofInt 0) = nI 0 from fun e => hz ((lg_eq ⟨by omega, by omega⟩ ⟨by decide, by decide⟩).mp e))]
      have hnz : ¬ Int64.ofInt (tNum u) = 0 := by
        intro e
        have := congrArg Int64.toInt e
        rw [l64_int (by omega) (by omega)] at this
        exact hz this
      obtain ⟨t1, t2, t3⟩ := l64_tdiv hx hy
      unfold czl
      rw [if_neg hnz, t1, ← Int64.ofInt_mul, ← Int64.ofInt_sub, show tNum v - (tNum v).tdiv (tNum u) * tNum u = (tNum v).tmod (tNum u) by rw [Int.tmod_def, Int.mul_comm], h_inB (by have := tmod_bd hx hz hy; omega) (by have := tmod_bd hx hz hy; omega), ob0_s]
      refine cast ?_ (give (match inB ((tNum v).tmod (tNum u)) with
        | .ok t => .ok (some t)
        | .error e => .error e) _ _ rfl gV_inB (inB_ok _))
      congr 1
      show _ = retG G N F L (aNumber 24 (tNum v) (tNum u) v u G)
      unfold aNumber
      simp only [Nat.reduceEqDiff, if_true, if_false, hz]
      cases inB ((tNum v).tmod (tNum u)) <;> rfl
  · obtain ⟨w1, hx, rfl⟩ := n1 rfl
    rw [if_neg (show ¬ nI 25 = (20 : Int32) by decide), if_neg (show ¬ nI 25 = (21 : Int32) by decide), if_neg (show ¬ nI 25 = (22 : Int32) by decide), if_neg (show ¬ nI 25 = (23 : Int32) by decide), if_neg (show ¬ nI 25 = (24 : Int32) by decide), if_pos (show nI 25 = (25 : Int32) from rfl), show (31 : Int32) = nI 31 from rfl, hN_32 hx.1 hx.2, i32_64 (by omega) (by omega), ← Int64.ofInt_neg, h_inB (by omega) (by omega), ob0_s]
    refine cast ?_ (give (match inB (-tNum v) with
      | .ok t => .ok (some t)
      | .error e => .error e) _ _ rfl gV_inB (inB_ok _))
    congr 1
    show _ = retG G N F L (aNumber 25 (tNum v) (tNum u) v u G)
    unfold aNumber
    simp only [Nat.reduceEqDiff, if_true, if_false]
    cases inB (-tNum v) <;> rfl
  · obtain ⟨w1, w2, hx, hy, rfl, rfl⟩ := nn rfl
    rw [if_neg (show ¬ nI 26 = (20 : Int32) by decide), if_neg (show ¬ nI 26 = (21 : Int32) by decide), if_neg (show ¬ nI 26 = (22 : Int32) by decide), if_neg (show ¬ nI 26 = (23 : Int32) by decide), if_neg (show ¬ nI 26 = (24 : Int32) by decide), if_neg (show ¬ nI 26 = (25 : Int32) by decide), if_pos (show nI 26 = (26 : Int32) from rfl), show (31 : Int32) = nI 31 from rfl, hN_32 hx.1 hx.2, hN_32 hy.1 hy.2, i32_64 (by omega) (by omega), i32_64 (by omega) (by omega)]
    rcases Classical.em (tNum v < tNum u) with hz | hz
    · rw [if_neg (show ¬ nI 0 ≤ lg_cmp (Int64.ofInt (tNum v)) (Int64.ofInt (tNum u)) from fun e => by have := (lg_ge ⟨by omega, by omega⟩ ⟨by omega, by omega⟩).mp e; omega)]
      obtain ⟨x, p1, p2⟩ := h_truth (n := n) (b := true) hc
      have p1 : m_Heap_truth n g i a (nI 1) = some x := p1
      rw [p1, ob0_s]
      refine cast ?_ (give _ _ _ rfl p2 trivial)
      congr 1
      show _ = retG G N F L (aNumber 26 (tNum v) (tNum u) v u G)
      unfold aNumber
      simp only [Nat.reduceEqDiff, if_true, if_false, hz, decide_true]
      rfl
    · rw [if_pos (show nI 0 ≤ lg_cmp (Int64.ofInt (tNum v)) (Int64.ofInt (tNum u)) from (lg_ge ⟨by omega, by omega⟩ ⟨by omega, by omega⟩).mpr (by omega))]
      obtain ⟨x, p1, p2⟩ := h_truth (n := n) (b := false) hc
      have p1 : m_Heap_truth n g i a (nI 0) = some x := p1
      rw [p1, ob0_s]
      refine cast ?_ (give _ _ _ rfl p2 trivial)
      congr 1
      show _ = retG G N F L (aNumber 26 (tNum v) (tNum u) v u G)
      unfold aNumber
      simp only [Nat.reduceEqDiff, if_true, if_false, hz, decide_false]
      rfl
  · obtain ⟨w1, w2, hx, hy, rfl, rfl⟩ := nn rfl
    rw [if_neg (show ¬ nI 27 = (20 : Int32) by decide), if_neg (show ¬ nI 27 = (21 : Int32) by decide), if_neg (show ¬ nI 27 = (22 : Int32) by decide), if_neg (show ¬ nI 27 = (23 : Int32) by decide), if_neg (show ¬ nI 27 = (24 : Int32) by decide), if_neg (show ¬ nI 27 = (25 : Int32) by decide), if_neg (show ¬ nI 27 = (26 : Int32) by decide), if_pos (show nI 27 = (27 : Int32) from rfl), show (31 : Int32) = nI 31 from rfl, hN_32 hx.1 hx.2, hN_32 hy.1 hy.2, i32_64 (by omega) (by omega), i32_64 (by omega) (by omega)]
    rcases Classical.em (tNum u < tNum v) with hz | hz
    · rw [if_neg (show ¬ lg_cmp (Int64.ofInt (tNum v)) (Int64.ofInt (tNum u)) ≤ nI 0 from fun e => by have := (lg_le ⟨by omega, by omega⟩ ⟨by omega, by omega⟩).mp e; omega)]
      obtain ⟨x, p1, p2⟩ := h_truth (n := n) (b := true) hc
      have p1 : m_Heap_truth n g i a (nI 1) = some x := p1
      rw [p1, ob0_s]
      refine cast ?_ (give _ _ _ rfl p2 trivial)
      congr 1
      show _ = retG G N F L (aNumber 27 (tNum v) (tNum u) v u G)
      unfold aNumber
      simp only [Nat.reduceEqDiff, if_true, if_false, hz, decide_true]
      rfl
    · rw [if_pos (show lg_cmp (Int64.ofInt (tNum v)) (Int64.ofInt (tNum u)) ≤ nI 0 from (lg_le ⟨by omega, by omega⟩ ⟨by omega, by omega⟩).mpr (by omega))]
      obtain ⟨x, p1, p2⟩ := h_truth (n := n) (b := false) hc
      have p1 : m_Heap_truth n g i a (nI 0) = some x := p1
      rw [p1, ob0_s]
      refine cast ?_ (give _ _ _ rfl p2 trivial)
      congr 1
      show _ = retG G N F L (aNumber 27 (tNum v) (tNum u) v u G)
      unfold aNumber
      simp only [Nat.reduceEqDiff, if_true, if_false, hz, decide_false]
      rfl
  · obtain ⟨w1, hx, rfl⟩ := n1 rfl
    rw [if_neg (show ¬ nI 28 = (20 : Int32) by decide), if_neg (show ¬ nI 28 = (21 : Int32) by decide), if_neg (show ¬ nI 28 = (22 : Int32) by decide), if_neg (show ¬ nI 28 = (23 : Int32) by decide), if_neg (show ¬ nI 28 = (24 : Int32) by decide), if_neg (show ¬ nI 28 = (25 : Int32) by decide), if_neg (show ¬ nI 28 = (26 : Int32) by decide), if_neg (show ¬ nI 28 = (27 : Int32) by decide), if_pos (show nI 28 = (28 : Int32) from rfl), show (31 : Int32) = nI 31 from rfl, hN_32 hx.1 hx.2, i32_64 (by omega) (by omega), Int64.toInt32_ofInt]
    unfold m_Deeds_random
    rcases Classical.em (1 ≤ tNum v) with hz | hz
    · rw [if_pos (by rw [Int32.le_iff_toInt_le, i32_int (by omega) (by omega)]; exact hz)]
      simp only [ob1_s]
      have e45 := hc.2.1.2.2.2.2.2.2.1
      rw [e45]
      have er : aRnd3 (aRnd2 (aRnd1 (gSeed G))) = aRnd (gSeed G) := rfl
      have hnz : ¬ Int32.ofInt (tNum v) = 0 := by
        intro e
        have := congrArg Int32.toInt e
        rw [i32_int (by omega) (by omega)] at this
        have e0 : (0 : Int32).toInt = 0 := rfl
        omega
      unfold cz
      rw [if_neg hnz]
      obtain ⟨m, hm1, hm2⟩ := pk_andE (aRnd (gSeed G)) (m := 2147483647) 31 (by decide)
      obtain ⟨d, hd1⟩ : ∃ d : Nat, tNum v = (d : Int) := ⟨(tNum v).toNat, by omega⟩
      have hdp : 0 < d := by omega
      have em : (aRnd (gSeed G) &&& 2147483647) - (aRnd (gSeed G) &&& 2147483647) / Int32.ofInt (tNum v) * Int32.ofInt (tNum v) = nI (m % d) := by
        rw [hm2, hd1]
        exact pk_rem (by omega) hdp (by omega)
      have ez : (aRnd (gSeed G) &&& 2147483647).toInt % tNum v = ((m % d : Nat) : Int) := by
        rw [hm2, hd1, nI_toInt (by omega)]
        rfl
      have hmd := Nat.mod_lt m hdp
      have hci : CI g (upd i 45 (aRnd (gSeed G))) a T (gSetSeed G (aRnd (gSeed G))) N F L := by
        obtain ⟨b1, b2, b3, b4, b5⟩ := hc
        exact ⟨b1, ⟨b2.1, b2.2.1, b2.2.2.1, b2.2.2.2.1, b2.2.2.2.2.1, b2.2.2.2.2.2.1, rfl, b2.2.2.2.2.2.2.2⟩, b3, b4, b5⟩
      have := TK_gv (n := n) (i := upd i 45 (aRnd (gSeed G))) (a := a) (x := hN ((m % d : Nat) : Int)) (r := .ok (some (tN ((m % d : Nat) : Int)))) (o := some (upd i 45 (aRnd (gSeed G)), a, hN ((m % d : Nat) : Int))) rfl (by omega) hci hl9 h44 h43 (show cV (a 0) T (tN ((m % d : Nat) : Int)) none _ from cV_tN.mpr ⟨by omega, by omega, rfl⟩) trivial
      refine cast ?_ this
      congr 1
      · show _ = ob (ob0 (m_Heap_number n ((aRnd (gSeed G) &&& 2147483647) - (aRnd (gSeed G) &&& 2147483647) / Int32.ofInt (tNum v) * Int32.ofInt (tNum v))) _) _
        rw [em]
        unfold m_Heap_number
        simp only [i32_lit, ob0_s]
        rw [hN_sh (nI_ofInt (m % d)), ob_s]
        rfl
      · show _ = retG G N F L (aNumber 28 (tNum v) (tNum u) v u G)
        unfold aNumber
        simp only [Nat.reduceEqDiff, if_true, if_false]
        rw [if_neg (by omega), ez]
        rfl
    · rw [if_neg (by rw [Int32.le_iff_toInt_le, i32_int (by omega) (by omega)]; exact hz), ob_s]
      refine cast ?_ (give (.error 3) _ _ rfl rfl ⟨by decide, by decide⟩)
      congr 1
      show _ = retG G N F L (aNumber 28 (tNum v) (tNum u) v u G)
      unfold aNumber
      simp only [Nat.reduceEqDiff, if_true, if_false]
      rw [if_pos (by omega)]
      rfl
  · obtain ⟨e1, e2⟩ := bb rfl
    rw [if_neg (show ¬ nI 29 = (20 : Int32) by decide), if_neg (show ¬ nI 29 = (21 : Int32) by decide), if_neg (show ¬ nI 29 = (22 : Int32) by decide), if_neg (show ¬ nI 29 = (23 : Int32) by decide), if_neg (show ¬ nI 29 = (24 : Int32) by decide), if_neg (show ¬ nI 29 = (25 : Int32) by decide), if_neg (show ¬ nI 29 = (26 : Int32) by decide), if_neg (show ¬ nI 29 = (27 : Int32) by decide), if_neg (show ¬ nI 29 = (28 : Int32) by decide), if_pos (show nI 29 = (29 : Int32) from rfl)]
    have key : ∀ b, b = (tLet v == wTrue && tLet u == wTrue) → TK n g T (ob0 (m_Heap_truth n g i a (b1 b)) (fun r => some (i, a, r))) (retG G N F L (aNumber 29 (tNum v) (tNum u) v u G)) := by
      intro b hb
      obtain ⟨x, p1, p2⟩ := h_truth (n := n) (b := b) hc
      rw [p1, ob0_s]
      refine cast ?_ (give _ _ _ rfl p2 trivial)
      congr 1
      show _ = retG G N F L (aNumber 29 (tNum v) (tNum u) v u G)
      unfold aNumber
      simp only [Nat.reduceEqDiff, if_true, if_false, hb]
      rfl
    rw [e1, e2, ob0_s]
    cases hb1 : (tLet v == wTrue) <;> cases hb2 : (tLet u == wTrue)
    all_goals
      rw [hb1, hb2] at key
      simp only [b1_t, b1_f, ob0_s]
    · rw [if_pos trivial]; exact key _ rfl
    · rw [if_pos trivial]; exact key _ rfl
    · rw [if_neg (by decide), if_pos trivial]; exact key _ rfl
    · rw [if_neg (by decide), if_neg (by decide)]; exact key _ rfl
  · obtain ⟨e1, e2⟩ := bb rfl
    rw [if_neg (show ¬ nI 30 = (20 : Int32) by decide), if_neg (show ¬ nI 30 = (21 : Int32) by decide), if_neg (show ¬ nI 30 = (22 : Int32) by decide), if_neg (show ¬ nI 30 = (23 : Int32) by decide), if_neg (show ¬ nI 30 = (24 : Int32) by decide), if_neg (show ¬ nI 30 = (25 : Int32) by decide), if_neg (show ¬ nI 30 = (26 : Int32) by decide), if_neg (show ¬ nI 30 = (27 : Int32) by decide), if_neg (show ¬ nI 30 = (28 : Int32) by decide), if_neg (show ¬ nI 30 = (29 : Int32) by decide), if_pos (show nI 30 = (30 : Int32) from rfl)]
    have key : ∀ b, b = (tLet v == wTrue || tLet u == wTrue) → TK n g T (ob0 (m_Heap_truth n g i a (b1 b)) (fun r => some (i, a, r))) (retG G N F L (aNumber 30 (tNum v) (tNum u) v u G)) := by
      intro b hb
      obtain ⟨x, p1, p2⟩ := h_truth (n := n) (b := b) hc
      rw [p1, ob0_s]
      refine cast ?_ (give _ _ _ rfl p2 trivial)
      congr 1
      show _ = retG G N F L (aNumber 30 (tNum v) (tNum u) v u G)
      unfold aNumber
      simp only [Nat.reduceEqDiff, if_true, if_false, hb]
      rfl
    rw [e1, e2, ob0_s]
    cases hb1 : (tLet v == wTrue) <;> cases hb2 : (tLet u == wTrue)
    all_goals
      rw [hb1, hb2] at key
      simp only [b1_t, b1_f, ob0_s]
    · rw [if_pos trivial, if_pos trivial]; exact key _ rfl
    · rw [if_pos trivial, if_neg (by decide)]; exact key _ rfl
    · rw [if_neg (by decide)]; exact key _ rfl
    · rw [if_neg (by decide)]; exact key _ rfl
  · have e1 : m_Deeds_isTrue n g i a (nI 0) = some (b1 (tLet v == wTrue)) := by
      have hk : aKind 31 = [98] := rfl
      rw [hk] at hl hf
      obtain ⟨v', rfl⟩ : ∃ v', vs = [v'] := by
        match vs, hl with
        | [p], _ => exact ⟨p, rfl⟩
      have hv : v' = v := hv
      subst hv
      have hf : ((isW v' && (tLet v' == wTrue || tLet v' == wFalse)) && true) = true := hf
      rw [Bool.and_eq_true, Bool.and_eq_true] at hf
      exact h_isTrue hn hI (by decide) rfl hf.1.1
    rw [if_neg (show ¬ nI 31 = (20 : Int32) by decide), if_neg (show ¬ nI 31 = (21 : Int32) by decide), if_neg (show ¬ nI 31 = (22 : Int32) by decide), if_neg (show ¬ nI 31 = (23 : Int32) by decide), if_neg (show ¬ nI 31 = (24 : Int32) by decide), if_neg (show ¬ nI 31 = (25 : Int32) by decide), if_neg (show ¬ nI 31 = (26 : Int32) by decide), if_neg (show ¬ nI 31 = (27 : Int32) by decide), if_neg (show ¬ nI 31 = (28 : Int32) by decide), if_neg (show ¬ nI 31 = (29 : Int32) by decide), if_neg (show ¬ nI 31 = (30 : Int32) by decide), if_pos (show nI 31 = (31 : Int32) from rfl)]
    have key : ∀ b, b = !(tLet v == wTrue) → TK n g T (ob0 (m_Heap_truth n g i a (b1 b)) (fun r => some (i, a, r))) (retG G N F L (aNumber 31 (tNum v) (tNum u) v u G)) := by
      intro b hb
      obtain ⟨x, p1, p2⟩ := h_truth (n := n) (b := b) hc
      rw [p1, ob0_s]
      refine cast ?_ (give _ _ _ rfl p2 trivial)
      congr 1
      show _ = retG G N F L (aNumber 31 (tNum v) (tNum u) v u G)
      unfold aNumber
      simp only [Nat.reduceEqDiff, if_true, if_false, hb]
      rfl
    rw [e1, ob0_s]
    cases hb1 : (tLet v == wTrue)
    all_goals
      rw [hb1] at key
      simp only [b1_t, b1_f]
    · rw [if_pos trivial]; exact key _ rfl
    · rw [if_neg (by decide)]; exact key _ rfl
