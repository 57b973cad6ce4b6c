/-! the collector of the class: words that mean something, in the spare cells -/
theorem ly_isAt_b {n : Nat} {g : Nat → Nat} {i : Nat → Int32} {a : Nat → Nat → Int32} (hg : g 1 ≤ 340000) {p q : Nat} {l r : List Nat} (h : inRow (a 1) (g 1) p l) (h' : inRow (a 5) 600 q r) : ∀ (m k f : Nat), l.length + r.length ≤ 2 * k + m → m + 1 < f → k ≤ l.length → k ≤ r.length → (∀ j, j < k → l[j]? = r[j]?) → m_Lexicon_isAt_a1_b11 n g i a f (nI p) (nI q) (nI k) = some (b1 (decide (r = l))) := by
  obtain ⟨q4, q5, q6, q7⟩ := h
  obtain ⟨r4, r5, r6, r7⟩ := h'
  intro m
  induction m with
  | zero =>
    intro k f e hf hk hk2 hj
    obtain ⟨f, rfl⟩ : ∃ f', f = f' + 1 := ⟨f - 1, by omega⟩
    have el : l.length = k := by omega
    have er : r.length = k := by omega
    have elr : r = l := by
      apply List.ext_getElem?
      intro j
      rcases Nat.lt_or_ge j k with h | h
      · exact (hj j h).symm
      · rw [List.getElem?_eq_none (by omega), List.getElem?_eq_none (by omega)]
    have e2 : a 1 (p + k) = nI 0 := by rw [← q7, el]
    have e3 : a 5 (q + k) = nI 0 := by rw [← r7, er]
    rw [m_Lexicon_isAt_a1_b11]
    simp (disch := omega) only [ob_s, ob0_s, ob1_s, i32_lit, ile_p, ile_n, ilt_p, ilt_n, ieq_p, ieq_n, ck_n, cl_n, sub_n, nI_add, sh_w, sh_l, an3_w, an3_l, an1_w, an1_l, hN_1, hN_3w, hN_3l, if_true, if_false, e2, e3, elr, decide_true, b1_t]
  | succ m ih =>
    intro k f e hf hk hk2 hj
    obtain ⟨f, rfl⟩ : ∃ f', f = f' + 1 := ⟨f - 1, by omega⟩
    rw [m_Lexicon_isAt_a1_b11]
    rcases Nat.lt_or_ge k l.length with hkl | hkl
    · have e2 := q6 k hkl
      have e3 := q5 _ (List.getElem_mem (h := hkl))
      rcases Nat.lt_or_ge k r.length with hkr | hkr
      · have e4 := r6 k hkr
        have e5 := r5 _ (List.getElem_mem (h := hkr))
        rcases Classical.em (l[k] = r[k]) with he | he
        · simp (disch := omega) only [ob_s, ob0_s, ob1_s, i32_lit, ile_p, ile_n, ilt_p, ilt_n, ieq_p, ieq_n, ck_n, cl_n, sub_n, nI_add, sh_w, sh_l, an3_w, an3_l, an1_w, an1_l, hN_1, hN_3w, hN_3l, if_true, if_false, e2, e4, he]
          exact ih (k + 1) f (by omega) (by omega) (by omega) (by omega) (fun j hjk => by
            rcases Nat.lt_or_ge j k with h | h
            · exact hj j h
            · obtain rfl : j = k := by omega
              rw [List.getElem?_eq_getElem hkl, List.getElem?_eq_getElem hkr, he])
        · have ne : r ≠ l := fun e => he (by subst e; rfl)
          simp (disch := omega) only [ob_s, ob0_s, ob1_s, i32_lit, ile_p, ile_n, ilt_p, ilt_n, ieq_p, ieq_n, ck_n, cl_n, sub_n, nI_add, sh_w, sh_l, an3_w, an3_l, an1_w, an1_l, hN_1, hN_3w, hN_3l, if_true, if_false, e2, e4, ne, decide_false, b1_f]
      · have ne : r ≠ l := fun e => by rw [← e] at hkl; omega
        have e4 : a 5 (q + k) = nI 0 := by rw [← r7, show r.length = k by omega]
        simp (disch := omega) only [ob_s, ob0_s, ob1_s, i32_lit, ile_p, ile_n, ilt_p, ilt_n, ieq_p, ieq_n, ck_n, cl_n, sub_n, nI_add, sh_w, sh_l, an3_w, an3_l, an1_w, an1_l, hN_1, hN_3w, hN_3l, if_true, if_false, e2, e4, ne, decide_false, b1_f]
    · have e2 : a 1 (p + k) = nI 0 := by rw [← q7, show l.length = k by omega]
      rcases Nat.lt_or_ge k r.length with hkr | hkr
      · have e4 := r6 k hkr
        have e5 := r5 _ (List.getElem_mem (h := hkr))
        have ne : r ≠ l := fun e => by rw [← e] at hkl; omega
        simp (disch := omega) only [ob_s, ob0_s, ob1_s, i32_lit, ile_p, ile_n, ilt_p, ilt_n, ieq_p, ieq_n, ck_n, cl_n, sub_n, nI_add, sh_w, sh_l, an3_w, an3_l, an1_w, an1_l, hN_1, hN_3w, hN_3l, if_true, if_false, e2, e4, ne, decide_false, b1_f]
      · have e4 : a 5 (q + k) = nI 0 := by rw [← r7, show r.length = k by omega]
        have elr : r = l := by
          apply List.ext_getElem?
          intro j
          rcases Nat.lt_or_ge j k with h | h
          · exact (hj j h).symm
          · rw [List.getElem?_eq_none (by omega), List.getElem?_eq_none (by omega)]
        simp (disch := omega) only [ob_s, ob0_s, ob1_s, i32_lit, ile_p, ile_n, ilt_p, ilt_n, ieq_p, ieq_n, ck_n, cl_n, sub_n, nI_add, sh_w, sh_l, an3_w, an3_l, an1_w, an1_l, hN_1, hN_3w, hN_3l, if_true, if_false, e2, e4, elr, decide_true, b1_t]
theorem ly_isAt {n : Nat} {g : Nat → Nat} {i : Nat → Int32} {a : Nat → Nat → Int32} (hg : g 1 ≤ 340000) (hx : lexOk a) {p c : Nat} {l : List Nat} (hn : 100 ≤ n) (h : inRow (a 1) (g 1) p l) (hl : l.length ≤ 30) (h1 : 1 ≤ c) (h2 : c < 86) : m_Lexicon_isAt_a1 n g i a (nI c) (nI p) = some (b1 (decide (lexW c = l))) := by
  unfold m_Lexicon_isAt_a1
  have e := hx.2.1 c h2
  have q := lexAt_of h1 h2
  have := ly_isAt_b (n := n) (i := i) hg h (lex_row hx h1 h2) (l.length + (lexW c).length) 0 n (by omega) (by omega) (by omega) (by omega) (fun j hj => absurd hj (Nat.not_lt_zero j))
  simp (disch := omega) only [ob_s, ob0_s, ob1_s, i32_lit, ile_p, ile_n, ilt_p, ilt_n, ieq_p, ieq_n, ck_n, cl_n, sub_n, nI_add, sh_w, sh_l, an3_w, an3_l, an1_w, an1_l, hN_1, hN_3w, hN_3l, if_true, if_false, e]
  exact this
theorem ly_hash_b {n : Nat} {g : Nat → Nat} {i : Nat → Int32} {a : Nat → Nat → Int32} (hg : g 1 ≤ 340000) : ∀ (l : List Nat) (p f h : Nat), inRow (a 1) (g 1) p l → l.length < f → m_Lexicon_hashOf_a1_b8 n g i a f (nI h) (nI p) = some (nI (hashN l h)) := by
  intro l
  induction l with
  | nil =>
    intro p f h hr hf
    obtain ⟨q4, q5, q6, q7⟩ := hr
    obtain ⟨f, rfl⟩ : ∃ f', f = f' + 1 := ⟨f - 1, by omega⟩
    rw [m_Lexicon_hashOf_a1_b8]
    have e : a 1 p = nI 0 := q7
    simp only [List.length_nil] at q4
    simp (disch := omega) only [ob_s, ob0_s, ob1_s, i32_lit, ile_p, ile_n, ilt_p, ilt_n, ieq_p, ieq_n, ck_n, cl_n, sub_n, nI_add, sh_w, sh_l, an3_w, an3_l, an1_w, an1_l, hN_1, hN_3w, hN_3l, if_true, if_false, e, hashN]
  | cons c l ih =>
    intro p f h hr hf
    obtain ⟨q4, q5, q6, q7⟩ := hr
    obtain ⟨f, rfl⟩ : ∃ f', f = f' + 1 := ⟨f - 1, by omega⟩
    rw [m_Lexicon_hashOf_a1_b8]
    have e : a 1 p = nI c := q6 0 (by simp)
    have e2 := q5 c (by simp)
    simp only [List.length_cons] at q4 q7 hf
    simp (disch := omega) only [ob_s, ob0_s, ob1_s, i32_lit, ile_p, ile_n, ilt_p, ilt_n, ieq_p, ieq_n, ck_n, cl_n, sub_n, nI_add, sh_w, sh_l, an3_w, an3_l, an1_w, an1_l, hN_1, hN_3w, hN_3l, if_true, if_false, e, hashN, pk_mul]
    refine ih (p + 1) f _ ⟨by omega, fun x hx => q5 x (List.mem_cons_of_mem _ hx), fun k hk => ?_, ?_⟩ (by omega)
    · have := q6 (k + 1) (by simp; omega)
      rw [show p + 1 + k = p + (k + 1) by omega]
      exact this
    · rw [← q7]; congr 1; omega
theorem ly_prb {n : Nat} {g : Nat → Nat} {i : Nat → Int32} {a : Nat → Nat → Int32} (hg : g 1 ≤ 340000) (hx : lexOk a) {p h : Nat} {l : List Nat} (hn : 100 ≤ n) (hr : inRow (a 1) (g 1) p l) (hl : l.length ≤ 30) : ∀ (m k f : Nat), 257 ≤ k + m → m ≤ f → k ≤ 256 → m_Lexicon_meaning_a1_b43 n g i a f (nI p) (nI h) (nI k) = some (nI (prb l h m k)) := by
  intro m
  induction m with
  | zero => intro k f e1 e2 e3; omega
  | succ m ih =>
    intro k f e1 e2 e3
    obtain ⟨f, rfl⟩ : ∃ f', f = f' + 1 := ⟨f - 1, by omega⟩
    rw [m_Lexicon_meaning_a1_b43, prb]
    rcases Nat.lt_or_ge k 256 with hk | hk
    · rw [if_neg (by omega : ¬ 256 ≤ k)]
      have e := hx.2.2.2.2 ((h + k) % 256) (Nat.mod_lt _ (by decide))
      have e9 := lexH_lt ((h + k) % 256)
      have e8 := Nat.mod_lt (h + k) (show 256 > 0 by decide)
      simp (disch := omega) only [ob_s, ob0_s, ob1_s, i32_lit, ile_p, ile_n, ilt_p, ilt_n, ieq_p, ieq_n, ck_n, cl_n, sub_n, nI_add, sh_w, sh_l, an3_w, an3_l, an1_w, an1_l, hN_1, hN_3w, hN_3l, if_true, if_false, nI_255, e]
      rcases Classical.em (lexH.getD ((h + k) % 256) 0 = 0) with hz | hz
      · rw [if_pos hz, hz, if_pos rfl]
      · rw [if_neg hz, if_neg (fun e => hz ((nI_eq (by omega) (by omega)).mp e)), ly_isAt hg hx hn hr hl (by omega) e9]
        rcases Classical.em (lexW (lexH.getD ((h + k) % 256) 0) = l) with hw | hw
        · rw [if_pos hw]
          simp (disch := omega) only [ob_s, ob0_s, ob1_s, i32_lit, ile_p, ile_n, ilt_p, ilt_n, ieq_p, ieq_n, ck_n, cl_n, sub_n, nI_add, sh_w, sh_l, an3_w, an3_l, an1_w, an1_l, hN_1, hN_3w, hN_3l, if_true, if_false, hw, decide_true, b1_t]
        · rw [if_neg hw]
          simp (disch := omega) only [ob_s, ob0_s, ob1_s, i32_lit, ile_p, ile_n, ilt_p, ilt_n, ieq_p, ieq_n, ck_n, cl_n, sub_n, nI_add, sh_w, sh_l, an3_w, an3_l, an1_w, an1_l, hN_1, hN_3w, hN_3l, if_true, if_false, hw, decide_false, b1_f]
          exact ih (k + 1) f (by omega) (by omega) (by omega)
    · rw [if_pos (by omega : 256 ≤ k)]
      simp (disch := omega) only [ob_s, ob0_s, ob1_s, i32_lit, ile_p, ile_n, ilt_p, ilt_n, ieq_p, ieq_n, ck_n, cl_n, sub_n, nI_add, sh_w, sh_l, an3_w, an3_l, an1_w, an1_l, hN_1, hN_3w, hN_3l, if_true, if_false]
theorem ly_meaning {n : Nat} {g : Nat → Nat} {i : Nat → Int32} {a : Nat → Nat → Int32} (hg : g 1 ≤ 340000) (hx : lexOk a) {p : Nat} {l : List Nat} (hn : 1000 ≤ n) (hr : inRow (a 1) (g 1) p l) (hl : l.length ≤ 30) (h0 : l ≠ []) : m_Lexicon_meaning_a1 n g i a (nI p) = some (nI (aLex l)) := by
  obtain ⟨c, r, rfl⟩ := List.exists_cons_of_ne_nil h0
  have e : a 1 p = nI c := hr.2.2.1 0 (by simp)
  have e2 := hr.2.1 c (by simp)
  have := hr.1
  have e3 := ly_hash_b (n := n) (i := i) hg (c :: r) p n 0 hr (by omega)
  have e4 := ly_prb (n := n) (i := i) (h := hashN (c :: r) 0) hg hx (by omega) hr hl 257 0 n (by omega) (by omega) (by omega)
  unfold m_Lexicon_meaning_a1 aLex
  rw [List.head?_cons]
  rcases Classical.em (c = 34) with rfl | h34
  · simp (disch := omega) only [ob_s, ob0_s, ob1_s, i32_lit, ile_p, ile_n, ilt_p, ilt_n, ieq_p, ieq_n, ck_n, cl_n, sub_n, nI_add, sh_w, sh_l, an3_w, an3_l, an1_w, an1_l, hN_1, hN_3w, hN_3l, if_true, if_false, e]
  rcases Classical.em (c = 58) with rfl | h58
  · simp (disch := omega) only [ob_s, ob0_s, ob1_s, i32_lit, ile_p, ile_n, ilt_p, ilt_n, ieq_p, ieq_n, ck_n, cl_n, sub_n, nI_add, sh_w, sh_l, an3_w, an3_l, an1_w, an1_l, hN_1, hN_3w, hN_3l, if_true, if_false, e, reduceCtorEq, Option.some.injEq, h34]
  have em : m_Math_max n (nI p) (nI 0) = some (nI p) := by
    unfold m_Math_max
    simp (disch := omega) only [ob_s, ob0_s, ob1_s, i32_lit, ile_p, ile_n, ilt_p, ilt_n, ieq_p, ieq_n, ck_n, cl_n, sub_n, nI_add, sh_w, sh_l, an3_w, an3_l, an1_w, an1_l, hN_1, hN_3w, hN_3l, if_true, if_false]
  simp (disch := omega) only [ob_s, ob0_s, ob1_s, i32_lit, ile_p, ile_n, ilt_p, ilt_n, ieq_p, ieq_n, ck_n, cl_n, sub_n, nI_add, sh_w, sh_l, an3_w, an3_l, an1_w, an1_l, hN_1, hN_3w, hN_3l, if_true, if_false, e, reduceCtorEq, Option.some.injEq, h34, h58]
  unfold m_Lexicon_hashOf_a1
  simp (disch := omega) only [ob_s, ob0_s, ob1_s, i32_lit, ile_p, ile_n, ilt_p, ilt_n, ieq_p, ieq_n, ck_n, cl_n, sub_n, nI_add, sh_w, sh_l, an3_w, an3_l, an1_w, an1_l, hN_1, hN_3w, hN_3l, if_true, if_false, em, e3, e4, prb_all]
/-- the spare cells may have got a longer row -/
def sGrow (g g' : Nat → Nat) (k : Nat × Nat) : Prop := g' 0 = g 0 ∧ g 1 ≤ g' 1 ∧ g' 1 ≤ 340000 ∧ 16384 * k.1 ≤ k.2 ∧ k.2 + gPot g ≤ gPot g'
theorem sGrow_refl {g : Nat → Nat} (h : g 1 ≤ 340000) : sGrow g g (0, 0) := ⟨rfl, Nat.le_refl _, h, Nat.le_refl _, by show 0 + gPot g ≤ gPot g; omega⟩
theorem sGrow_trans {g g' g2 : Nat → Nat} {k l : Nat × Nat} (h : sGrow g g' k) (h' : sGrow g' g2 l) : sGrow g g2 (k.1 + l.1, k.2 + l.2) := by
  obtain ⟨a1, a2, a3, a4, a5⟩ := h
  obtain ⟨b1, b2, b3, b4, b5⟩ := h'
  exact ⟨by rw [b1, a1], by omega, b3, by show 16384 * (k.1 + l.1) ≤ k.2 + l.2; omega, by show k.2 + l.2 + gPot g ≤ gPot g2; omega⟩
theorem h_reserveS {n : Nat} {g : Nat → Nat} {i : Nat → Int32} {a : Nat → Nat → Int32} {T c : Nat} (hi : i 9 = nI T) (h1 : T + c ≤ 340000) (h3 : 16384 ≤ g 1) (h4 : g 1 ≤ 340000) : ∃ f g' k, m_Heap_reserveSpare n g i a (nI c) = some (i, updA a 1 f, g', k, nI 1) ∧ (∀ x, x < g 1 → f x = a 1 x) ∧ T + c ≤ g' 1 ∧ sGrow g g' k := by
  unfold m_Heap_reserveSpare
  rcases Nat.lt_or_ge (g 1) (T + c) with h | h
  · obtain ⟨r, hr⟩ : ∃ r, r = min 340000 (max (2 * g 1) (T + c)) := ⟨_, rfl⟩
    have e1 : m_Math_max n (nI (2 * g 1)) (nI (T + c)) = some (nI (max (2 * g 1) (T + c))) := mmax_n (by omega) (by omega)
    have e2 : m_Math_min n (nI 340000) (nI (max (2 * g 1) (T + c))) = some (nI r) := by rw [mmin_n (by omega) (by omega), hr]
    have e3 : m_Math_min_r (nI (g 1)) (nI r) = nI (g 1) := by rw [mminr_n (by omega) (by omega), Nat.min_eq_left (by omega)]
    refine ⟨va_cpy (a 1) (fun _ => 0) 0 0 (g 1), updN g 1 r, (1, r), ?_, ?_, ?_, ?_⟩
    · simp (disch := omega) only [ob_s, ob0_s, ob1_s, i32_lit, ile_p, ile_n, ilt_p, ilt_n, ieq_p, ieq_n, ck_n, cl_n, sub_n, nI_add, sh_w, sh_l, an3_w, an3_l, an1_w, an1_l, hN_1, hN_3w, hN_3l, if_true, if_false, hi, pk_mul, e1, e2, e3]
      unfold cg
      rw [if_neg]
      · unfold gw
        rfl
      · rintro (h | h | h | h | h | h)
        · have := (nI_eq (by omega) (by omega)).mp h; omega
        · exact nI_pos (by omega) h
        · rw [nI_clamp (by omega)] at h
          have : componentBytes .int = 4 := rfl
          rw [this] at h
          omega
        · exact nI_pos (by omega) h
        · rw [nI_clamp (by omega)] at h; omega
        · rw [nI_clamp (by omega), nI_clamp (by omega)] at h; omega
    · intro x hx
      unfold va_cpy
      rw [if_pos (by omega)]
      congr 1
      omega
    · show T + c ≤ r
      omega
    · have e : gPot (updN g 1 r) = hPot (g 0) + hPot r := rfl
      refine ⟨rfl, by show g 1 ≤ r; omega, by show r ≤ 340000; omega, by show 16384 * 1 ≤ r; omega, ?_⟩
      rw [e]
      show r + (hPot (g 0) + hPot (g 1)) ≤ _
      have hh : r + hPot (g 1) ≤ hPot r := by
        unfold hPot
        rcases Nat.lt_or_ge r 340000 with h9 | h9
        · rw [if_pos h9, if_pos (by omega : g 1 < 340000)]
          omega
        · rw [if_neg (by omega : ¬ r < 340000), if_pos (by omega : g 1 < 340000)]
          omega
      omega
  · refine ⟨a 1, g, (0, 0), ?_, fun x _ => rfl, h, sGrow_refl h4⟩
    simp (disch := omega) only [ob_s, ob0_s, ob1_s, i32_lit, ile_p, ile_n, ilt_p, ilt_n, ieq_p, ieq_n, ck_n, cl_n, sub_n, nI_add, sh_w, sh_l, an3_w, an3_l, an1_w, an1_l, hN_1, hN_3w, hN_3l, if_true, if_false, hi]
    rw [updA_self]
theorem h_sizeR_b {n : Nat} {g : Nat → Nat} {i : Nat → Int32} {a : Nat → Nat → Int32} (hg : g 0 ≤ 340000) {p : Nat} {l : List Nat} (h : inRow (a 0) (g 0) p l) : ∀ (m k f : Nat), l.length = k + m → m < f → m_Heap_size_b50 n g i a f (nI k) (nI (p + k)) = some (nI l.length) := by
  obtain ⟨q4, q5, q6, q7⟩ := h
  intro m
  induction m with
  | zero =>
    intro k f e hf
    obtain ⟨f, rfl⟩ : ∃ f', f = f' + 1 := ⟨f - 1, by omega⟩
    rw [m_Heap_size_b50]
    have e2 : a 0 (p + k) = nI 0 := by rw [← q7, e]; rfl
    simp (disch := omega) only [ob_s, ob0_s, ob1_s, i32_lit, ile_p, ile_n, ilt_p, ilt_n, ieq_p, ieq_n, ck_n, cl_n, sub_n, nI_add, sh_w, sh_l, an3_w, an3_l, an1_w, an1_l, hN_1, hN_3w, hN_3l, if_true, if_false, e2]
    rw [e]; rfl
  | succ m ih =>
    intro k f e hf
    obtain ⟨f, rfl⟩ : ∃ f', f = f' + 1 := ⟨f - 1, by omega⟩
    rw [m_Heap_size_b50]
    have e2 := q6 k (by omega)
    have e3 := q5 _ (List.getElem_mem (h := show k < l.length by omega))
    simp (disch := omega) only [ob_s, ob0_s, ob1_s, i32_lit, ile_p, ile_n, ilt_p, ilt_n, ieq_p, ieq_n, ck_n, cl_n, sub_n, nI_add, sh_w, sh_l, an3_w, an3_l, an1_w, an1_l, hN_1, hN_3w, hN_3l, if_true, if_false, e2]
    have := ih (k + 1) f (by omega) (by omega)
    rw [show p + (k + 1) = p + k + 1 by omega] at this
    exact this
theorem h_sizeR {n : Nat} {g : Nat → Nat} {i : Nat → Int32} {a : Nat → Nat → Int32} (hg : g 0 ≤ 340000) {p : Nat} {l : List Nat} (hn : 100 ≤ n) (hp : 1 ≤ p) (hl : l.length ≤ 30) (h : inRow (a 0) (g 0) p l) : m_Heap_size n g i a (nI (4 * p + 3)) = some (nI l.length) := by
  have hb := h_sizeR_b (n := n) (i := i) hg h l.length 0 n (by omega) (by omega)
  have h4 := h.1
  unfold m_Heap_size
  simp (disch := omega) only [ob_s, ob0_s, ob1_s, i32_lit, ile_p, ile_n, ilt_p, ilt_n, ieq_p, ieq_n, ck_n, cl_n, sub_n, nI_add, sh_w, sh_l, an3_w, an3_l, an1_w, an1_l, hN_1, hN_3w, hN_3l, if_true, if_false]
  rw [Nat.add_zero] at hb
  exact hb
/-- the cells that a value wants -/
def kc : Tr → Nat
  | .tag _ t => kc t + 1
  | .line => 2
  | .nil => 1
  | .append m t => kc m + 1 + kc t
  | _ => 0
theorem kc_tW (l : List Nat) : kc (tW l) = l.length + 2 := by
  induction l with
  | nil => rfl
  | cons c l ih => show kc (tW l) + 1 = _; rw [ih, List.length_cons]
def kcL (ms : List Tr) : Nat := (ms.map kc).sum
theorem kc_tL (ms : List Tr) : kc (tL ms) = 1 + ms.length + kcL ms := by
  induction ms with
  | nil => rfl
  | cons m ms ih =>
    show kc m + 1 + kc (tL ms) = _
    rw [ih]
    unfold kcL
    rw [List.map_cons, List.sum_cons, List.length_cons]
    omega
theorem kc_tN (n : Int) : kc (tN n) = 0 := rfl
/-- a value in the new cells s up to S; members from A on are still what they were in the old cells -/
def mV (s : Nat → Int32) (S A : Nat) (f0 : Nat → Int32) (T : Nat) : Tr → Option Nat → Int32 → Prop
  | .nest n t, none, v => t = .nil ∧ -1000000000 ≤ n ∧ n ≤ 1000000000 ∧ v = hN n
  | .tag c t, none, v => ∃ p, v = nI (4 * p + 3) ∧ t = tW (tLet t) ∧ cWd s S p (c :: tLet t)
  | .nil, none, v => ∃ p, v = nI (4 * p + 1) ∧ cHd s S p 0 1 1 2
  | .append m t, none, v => ∃ p, v = nI (4 * p + 1) ∧ cHd s S p ((tMem t).length + 1) (tSz m + tSz t) (tDp (.append m t)) (tSl (.append m t)) ∧ (if p + 1 < A then mV s S A f0 T m none (s (p + 1)) else cV f0 T m none (s (p + 1))) ∧ mV s S A f0 T t (some (p + 2)) 0
  | .nil, some _, _ => True
  | .append m t, some p, _ => (if p < A then mV s S A f0 T m none (s p) else cV f0 T m none (s p)) ∧ mV s S A f0 T t (some (p + 1)) 0
  | _, _, _ => False
theorem mV_as {s : Nat → Int32} {S A : Nat} {f0 : Nat → Int32} {T p : Nat} {m t : Tr} {v : Int32} : mV s S A f0 T (.append m t) (some p) v = ((if p < A then mV s S A f0 T m none (s p) else cV f0 T m none (s p)) ∧ mV s S A f0 T t (some (p + 1)) 0) := rfl
theorem mV_an {s : Nat → Int32} {S A : Nat} {f0 : Nat → Int32} {T : Nat} {m t : Tr} {v : Int32} : mV s S A f0 T (.append m t) none v = ∃ p, v = nI (4 * p + 1) ∧ cHd s S p ((tMem t).length + 1) (tSz m + tSz t) (tDp (.append m t)) (tSl (.append m t)) ∧ (if p + 1 < A then mV s S A f0 T m none (s (p + 1)) else cV f0 T m none (s (p + 1))) ∧ mV s S A f0 T t (some (p + 2)) 0 := rfl
theorem mV_tN {s : Nat → Int32} {S A : Nat} {f0 : Nat → Int32} {T : Nat} {n : Int} {v : Int32} : mV s S A f0 T (tN n) none v ↔ -1000000000 ≤ n ∧ n ≤ 1000000000 ∧ v = hN n := by
  unfold tN mV
  exact ⟨fun h => h.2, fun h => ⟨rfl, h⟩⟩
theorem mV_tW {s : Nat → Int32} {S A : Nat} {f0 : Nat → Int32} {T : Nat} {l : List Nat} {v : Int32} : mV s S A f0 T (tW l) none v ↔ ∃ p, v = nI (4 * p + 3) ∧ cWd s S p l := by
  cases l with
  | nil =>
    constructor
    · intro h; exact absurd h (by unfold tW mV; exact id)
    · rintro ⟨p, _, h⟩; exact absurd rfl h.2.1
  | cons c l =>
    show mV s S A f0 T (.tag c (tW l)) none v ↔ _
    unfold mV
    rw [tLet_tW]
    constructor
    · rintro ⟨p, h1, _, h2⟩; exact ⟨p, h1, h2⟩
    · rintro ⟨p, h1, h2⟩; exact ⟨p, h1, rfl, h2⟩
/-- a member, wherever it stands -/
def mB (s : Nat → Int32) (S A : Nat) (f0 : Nat → Int32) (T : Nat) (m : Tr) (q : Nat) : Prop := if q < A then mV s S A f0 T m none (s q) else cV f0 T m none (s q)
theorem mV_ch {s : Nat → Int32} {S A : Nat} {f0 : Nat → Int32} {T : Nat} : ∀ (ms : List Tr) (p : Nat) (v : Int32), mV s S A f0 T (tL ms) (some p) v ↔ ∀ k (h : k < ms.length), mB s S A f0 T (ms[k]'h) (p + k) := by
  intro ms
  induction ms with
  | nil => intro p v; exact ⟨fun _ k h => absurd h (Nat.not_lt_zero k), fun _ => trivial⟩
  | cons m ms ih =>
    intro p v
    show mV s S A f0 T (.append m (tL ms)) (some p) v ↔ _
    rw [mV_as, ih]
    constructor
    · rintro ⟨h1, h2⟩ k hk
      cases k with
      | zero => exact h1
      | succ k =>
        have := h2 k (by simp at hk; omega)
        rw [show p + 1 + k = p + (k + 1) by omega] at this
        exact this
    · intro h
      refine ⟨h 0 (by simp), fun k hk => ?_⟩
      have := h (k + 1) (by simp; omega)
      rw [show p + (k + 1) = p + 1 + k by omega] at this
      exact this
theorem mV_tL {s : Nat → Int32} {S A : Nat} {f0 : Nat → Int32} {T : Nat} {ms : List Tr} {v : Int32} : mV s S A f0 T (tL ms) none v ↔ ∃ p, v = nI (4 * p + 1) ∧ cHd s S p ms.length (tSz (tL ms)) (tDp (tL ms)) (tSl (tL ms)) ∧ ∀ k (h : k < ms.length), mB s S A f0 T (ms[k]'h) (p + 1 + k) := by
  cases ms with
  | nil =>
    show mV s S A f0 T .nil none v ↔ _
    unfold mV
    constructor
    · rintro ⟨p, h1, h2⟩; exact ⟨p, h1, h2, fun k h => absurd h (Nat.not_lt_zero k)⟩
    · rintro ⟨p, h1, h2, _⟩; exact ⟨p, h1, h2⟩
  | cons m ms =>
    show mV s S A f0 T (.append m (tL ms)) none v ↔ _
    rw [mV_an]
    constructor
    · rintro ⟨p, h1, h2, h3, h4⟩
      rw [tMem_tL] at h2
      refine ⟨p, h1, h2, fun k hk => ?_⟩
      rw [mV_ch] at h4
      cases k with
      | zero => exact h3
      | succ k =>
        have := h4 k (by simp at hk; omega)
        rw [show p + 2 + k = p + 1 + (k + 1) by omega] at this
        exact this
    · rintro ⟨p, h1, h2, h3⟩
      refine ⟨p, h1, by rw [tMem_tL]; exact h2, h3 0 (by simp), ?_⟩
      rw [mV_ch]
      intro k hk
      have := h3 (k + 1) (by simp; omega)
      rw [show p + 1 + (k + 1) = p + 2 + k by omega] at this
      exact this
theorem mV_chain {s : Nat → Int32} {S A : Nat} {f0 : Nat → Int32} {T : Nat} {t : Tr} : ∀ {p : Nat} {v : Int32}, mV s S A f0 T t (some p) v → ∃ l, t = tL l := by
  induction t with
  | nil => intro p v h; exact ⟨[], rfl⟩
  | append m t _ ih =>
    intro p v h
    rw [mV_as] at h
    obtain ⟨l, rfl⟩ := ih h.2
    exact ⟨m :: l, rfl⟩
  | _ => intro p v h; exact h.elim
/-- a step of the collector from one state to another keeps all values, if it keeps words, heads and members -/
theorem mV_step {s s' : Nat → Int32} {S S' A A' : Nat} {f0 : Nat → Int32} {T : Nat} (hW : ∀ p l, cWd s S p l → cWd s' S' p l) (hH : ∀ p c z d e, cHd s S p c z d e → cHd s' S' p c z d e ∧ ∀ k, k < c → ∀ (m : Tr), (∀ v, mV s S A f0 T m none v → mV s' S' A' f0 T m none v) → mB s S A f0 T m (p + 1 + k) → mB s' S' A' f0 T m (p + 1 + k)) : ∀ (t : Tr), (∀ v, mV s S A f0 T t none v → mV s' S' A' f0 T t none v) ∧ (∀ p c z d e j v, cHd s S p c z d e → j + (tMem t).length ≤ c → mV s S A f0 T t (some (p + 1 + j)) v → mV s' S' A' f0 T t (some (p + 1 + j)) v) := by
  intro t
  induction t with
  | nest n t _ => exact ⟨fun v h => h, fun _ _ _ _ _ _ _ _ _ h => h.elim⟩
  | tag c t _ =>
    refine ⟨fun v h => ?_, fun _ _ _ _ _ _ _ _ _ h => h.elim⟩
    obtain ⟨p, h1, h2, h3⟩ := h
    exact ⟨p, h1, h2, hW _ _ h3⟩
  | nil =>
    refine ⟨fun v h => ?_, fun _ _ _ _ _ _ _ _ _ h => trivial⟩
    obtain ⟨p, h1, h2⟩ := h
    exact ⟨p, h1, (hH _ _ _ _ _ h2).1⟩
  | append m t ihm iht =>
    constructor
    · intro v h
      rw [mV_an] at h ⊢
      obtain ⟨p, h1, h2, h3, h4⟩ := h
      have q := hH _ _ _ _ _ h2
      refine ⟨p, h1, q.1, ?_, ?_⟩
      · have := q.2 0 (by omega) m ihm.1 h3
        exact this
      · have := iht.2 p _ _ _ _ 1 _ h2 (by omega) h4
        exact this
    · intro p c z d e j v h2 hj h
      rw [mV_as] at h ⊢
      have e9 : (tMem (.append m t)).length = (tMem t).length + 1 := rfl
      rw [e9] at hj
      have q := hH _ _ _ _ _ h2
      refine ⟨q.2 j (by omega) m ihm.1 h.1, ?_⟩
      have := iht.2 p c z d e (j + 1) 0 h2 (by omega) h.2
      exact this
  | _ => exact ⟨fun v h => h.elim, fun _ _ _ _ _ _ _ _ _ h => h.elim⟩
/-- new cells behind -/
theorem mV_grow {s s' : Nat → Int32} {S S' A : Nat} {f0 : Nat → Int32} {T : Nat} (hS : S ≤ S') (hs : ∀ x, x < S → s' x = s x) {t : Tr} {v : Int32} (h : mV s S A f0 T t none v) : mV s' S' A f0 T t none v := by
  refine (mV_step (fun p l h => cWd_mono hS hs h) (fun p c z d e h => ⟨cHd_mono hS hs h, fun k hk m ih hb => ?_⟩) t).1 v h
  have h2 := h.2.1
  unfold mB at hb ⊢
  rw [hs _ (by omega)]
  split at hb
  · next hq => rw [if_pos hq]; exact ih _ hb
  · next hq => rw [if_neg hq]; exact hb
theorem sStep_mem {q : Nat} {v : Int32} (h : 2 ≤ q) : sStep q v = if q = 2 then 0 else q - 1 := by
  unfold sStep
  rw [if_neg (show ¬ q = 0 by omega), if_neg (show ¬ q = 1 by omega)]
/-- what stands at a member's place doesn't matter to where things begin -/
theorem sA_mem {s : Nat → Int32} {A : Nat} {x : Int32} (h : 2 ≤ sA s A) : ∀ p, sA (upd s A x) p = sA s p := by
  intro p
  induction p with
  | zero => rfl
  | succ p ih =>
    rw [sA, sA, ih]
    rcases Classical.em (p = A) with e | e
    · subst e
      rcases Nat.eq_zero_or_pos p with e0 | e0
      · rw [if_pos e0, if_pos e0]
      · rw [if_neg (by omega), if_neg (by omega), sStep_mem h, sStep_mem h]
    · rw [upd_ne e]
theorem cWd_mem {s : Nat → Int32} {S A p : Nat} {x : Int32} {l : List Nat} (hA : 2 ≤ sA s A) (h : cWd s S p l) : cWd (upd s A x) S p l := by
  have h1 := cWd_sA h
  obtain ⟨q1, q2, q3, q4, q5, q6, q7, q8⟩ := h
  have hin := sA_in q1 h1 q5 q6
  refine ⟨q1, q2, q3, q4, q5, fun k hk => ?_, ?_, ?_⟩
  · rw [upd_ne (fun e => by have := hin k (by omega); rw [e] at this; omega)]; exact q6 k hk
  · rw [upd_ne (fun e => by have := hin l.length (Nat.le_refl _); rw [e] at this; omega)]; exact q7
  · have h8 : sA s (p - 1) < 2 := by
      rcases q8 with q | q
      · rw [q.2.2]; decide
      · rw [q.2]; decide
    rw [sA_mem hA, upd_ne (fun e => by rw [e] at h8; omega)]
    exact q8
theorem cHd_mem {s : Nat → Int32} {S A p c z d e : Nat} {x : Int32} (hA : 2 ≤ sA s A) (h : cHd s S p c z d e) : cHd (upd s A x) S p c z d e := by
  obtain ⟨⟨q1, q0⟩, q2, q3, q4, q5⟩ := h
  exact ⟨⟨q1, by rw [sA_mem hA]; exact q0⟩, q2, q3, q4, by rw [upd_ne (fun e => by rw [e] at q0; omega)]; exact q5⟩
/-- the member at A is moved -/
theorem mV_scan {s : Nat → Int32} {S A : Nat} {f0 : Nat → Int32} {T : Nat} {x : Int32} (hA : 2 ≤ sA s A) (hx : ∀ m, cV f0 T m none (s A) → mV s S A f0 T m none x) {t : Tr} {v : Int32} (h : mV s S A f0 T t none v) : mV (upd s A x) S (A + 1) f0 T t none v := by
  refine (mV_step (fun p l h => cWd_mem hA h) (fun p c z d e h => ⟨cHd_mem hA h, fun k hk m ih hb => ?_⟩) t).1 v h
  unfold mB at hb ⊢
  rcases Nat.lt_trichotomy (p + 1 + k) A with q | q | q
  · rw [if_pos q] at hb
    rw [if_pos (by omega), upd_ne (by omega)]
    exact ih _ hb
  · rw [if_neg (by omega)] at hb
    rw [if_pos (by omega), q, upd_at]
    rw [q] at hb
    exact ih _ (hx m hb)
  · rw [if_neg (by omega)] at hb
    rw [if_neg (by omega), upd_ne (by omega)]
    exact hb
/-- a word or a list that begins at A is passed -/
theorem mV_pass {s : Nat → Int32} {S A A' : Nat} {f0 : Nat → Int32} {T : Nat} (hA : A ≤ A') (hp : ∀ x, A ≤ x → x < A' → ¬ 2 ≤ sA s x) {t : Tr} {v : Int32} (h : mV s S A f0 T t none v) : mV s S A' f0 T t none v := by
  refine (mV_step (fun p l h => h) (fun p c z d e h => ⟨h, fun k hk m ih hb => ?_⟩) t).1 v h
  have hm : 2 ≤ sA s (p + 1 + k) := by
    obtain ⟨⟨q1, q0⟩, q2, q3, q4, q5⟩ := h
    rw [sA_list q1 q0 q5 (by omega) q4.1 k (by omega), if_neg (by omega)]
    omega
  unfold mB at hb ⊢
  rcases Nat.lt_or_ge (p + 1 + k) A with q | q
  · rw [if_pos q] at hb
    rw [if_pos (by omega)]
    exact ih _ hb
  · rw [if_neg (by omega)] at hb
    rcases Nat.lt_or_ge (p + 1 + k) A' with q2 | q2
    · exact absurd hm (hp _ q q2)
    · rw [if_neg (by omega)]; exact hb
/-- nothing is left -/
theorem mV_end {s : Nat → Int32} {S : Nat} {f0 : Nat → Int32} {T : Nat} : ∀ (t : Tr), (∀ v, mV s S S f0 T t none v → cV s S t none v) ∧ (∀ p v, p + (tMem t).length ≤ S → mV s S S f0 T t (some p) v → cV s S t (some p) v) := by
  intro t
  induction t with
  | nest n t _ => exact ⟨fun v h => h, fun p v _ h => h.elim⟩
  | tag c t _ => exact ⟨fun v h => h, fun p v _ h => h.elim⟩
  | nil => exact ⟨fun v h => h, fun p v _ h => trivial⟩
  | append m t ihm iht =>
    constructor
    · intro v h
      rw [mV_an] at h
      rw [cV_an]
      obtain ⟨p, h1, h2, h3, h4⟩ := h
      have := h2.2.1
      rw [if_pos (by omega)] at h3
      exact ⟨p, h1, h2, ihm.1 _ h3, iht.2 _ _ (by omega) h4⟩
    · intro p v hp h
      rw [mV_as] at h
      rw [cV_as]
      have e : (tMem (.append m t)).length = (tMem t).length + 1 := rfl
      rw [e] at hp
      rw [if_pos (by omega)] at h
      exact ⟨ihm.1 _ h.1, iht.2 _ _ (by omega) h.2⟩
  | _ => exact ⟨fun v h => h.elim, fun p v _ h => h.elim⟩

