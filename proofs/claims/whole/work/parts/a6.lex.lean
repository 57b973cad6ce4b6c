/-! the words that mean something, as the class finds them -/
theorem getD_in {α : Type} {l : List α} {k : Nat} {d : α} (h : k < l.length) : l.getD k d = l[k]'h := by
  rw [List.getD_eq_getElem?_getD, List.getElem?_eq_getElem h]; rfl
theorem getD_out {α : Type} {l : List α} {k : Nat} {d : α} (h : l.length ≤ k) : l.getD k d = d := by
  rw [List.getD_eq_getElem?_getD, List.getElem?_eq_none h]; rfl
def lexL : List Nat := [102, 100, 0, 98, 107, 0, 114, 116, 0, 108, 116, 0, 115, 101, 116, 104, 0, 112, 117, 0, 112, 100, 0, 115, 101, 116, 112, 101, 110, 0, 104, 111, 109, 101, 0, 112, 108, 97, 99, 101, 0, 99, 108, 101, 97, 110, 0, 116, 101, 108, 108, 0, 104, 101, 97, 100, 105, 110, 103, 0, 120, 99, 111, 114, 0, 121, 99, 111, 114, 0, 112, 101, 110, 0, 119, 104, 111, 0, 100, 111, 116, 0, 115, 97, 109, 101, 0, 115, 117, 109, 0, 100, 105, 102, 102, 101, 114, 101, 110, 99, 101, 0, 112, 114, 111, 100, 117, 99, 116, 0, 113, 117, 111, 116, 105, 101, 110, 116, 0, 114, 101, 109, 97, 105, 110, 100, 101, 114, 0, 109, 105, 110, 117, 115, 0, 108, 101, 115, 115, 112, 0, 103, 114, 101, 97, 116, 101, 114, 112, 0, 114, 97, 110, 100, 111, 109, 0, 97, 110, 100, 0, 111, 114, 0, 110, 111, 116, 0, 101, 113, 117, 97, 108, 112, 0, 108, 105, 115, 116, 112, 0, 119, 111, 114, 100, 112, 0, 110, 117, 109, 98, 101, 114, 112, 0, 99, 111, 117, 110, 116, 0, 101, 109, 112, 116, 121, 112, 0, 102, 105, 114, 115, 116, 0, 108, 97, 115, 116, 0, 98, 117, 116, 102, 105, 114, 115, 116, 0, 98, 117, 116, 108, 97, 115, 116, 0, 105, 116, 101, 109, 0, 102, 112, 117, 116, 0, 108, 112, 117, 116, 0, 115, 101, 110, 116, 101, 110, 99, 101, 0, 108, 105, 115, 116, 0, 109, 101, 109, 98, 101, 114, 112, 0, 114, 101, 118, 101, 114, 115, 101, 0, 119, 111, 114, 100, 0, 109, 97, 107, 101, 0, 108, 111, 99, 97, 108, 0, 116, 104, 105, 110, 103, 0, 110, 97, 109, 101, 112, 0, 100, 101, 102, 105, 110, 101, 0, 97, 114, 105, 116, 121, 0, 116, 101, 120, 116, 0, 112, 114, 105, 110, 116, 0, 115, 104, 111, 119, 0, 116, 121, 112, 101, 0, 114, 117, 110, 0, 105, 102, 0, 105, 102, 101, 108, 115, 101, 0, 114, 101, 112, 101, 97, 116, 0, 114, 101, 112, 99, 111, 117, 110, 116, 0, 119, 104, 105, 108, 101, 0, 102, 111, 114, 101, 97, 99, 104, 0, 63, 0, 109, 97, 112, 0, 97, 115, 107, 0, 115, 116, 111, 112, 0, 111, 117, 116, 112, 117, 116, 0, 99, 97, 116, 99, 104, 0, 116, 104, 114, 111, 119, 0, 101, 114, 114, 111, 114, 0, 40, 0, 41, 0, 61, 0, 60, 0, 62, 0, 43, 0, 45, 0, 42, 0, 47, 0, 116, 111, 0, 101, 110, 100, 0]
def lexS : List Nat := [0, 0, 3, 6, 9, 12, 17, 20, 23, 30, 35, 41, 47, 52, 60, 65, 70, 74, 78, 82, 87, 91, 102, 110, 119, 129, 135, 141, 150, 157, 161, 164, 168, 175, 181, 187, 195, 201, 208, 214, 219, 228, 236, 241, 246, 251, 260, 265, 273, 281, 286, 291, 297, 303, 309, 316, 322, 327, 333, 338, 343, 347, 350, 357, 364, 373, 379, 387, 389, 393, 397, 402, 409, 415, 421, 427, 429, 431, 433, 435, 437, 439, 441, 443, 445, 448]
def lexA : List Nat := [0, 1, 1, 1, 1, 1, 0, 0, 1, 0, 2, 0, 1, 0, 0, 0, 0, 0, 0, 2, 2, 2, 2, 2, 2, 1, 2, 2, 1, 2, 2, 1, 2, 1, 1, 1, 1, 1, 1, 1, 1, 1, 2, 2, 2, 2, 2, 2, 1, 2, 2, 1, 1, 1, 2, 1, 1, 1, 1, 1, 1, 2, 3, 2, 0, 2, 2, 0, 2, 2, 0, 1, 2, 1, 0, 0, 0, 0, 0, 0, 0, 0, 0, 0, 0, 0]
def lexK : List Nat := [0, 0, 0, 110, 0, 0, 110, 0, 0, 110, 0, 0, 110, 0, 0, 110, 0, 0, 0, 0, 0, 0, 0, 0, 110, 0, 0, 0, 0, 0, 110, 110, 0, 0, 0, 0, 110, 0, 0, 0, 0, 0, 0, 0, 0, 0, 0, 0, 0, 0, 0, 0, 0, 0, 0, 0, 0, 110, 110, 0, 110, 110, 0, 110, 110, 0, 110, 110, 0, 110, 110, 0, 110, 110, 0, 110, 0, 0, 110, 110, 0, 110, 110, 0, 110, 0, 0, 98, 98, 0, 98, 98, 0, 98, 0, 0, 118, 118, 0, 118, 0, 0, 118, 0, 0, 118, 0, 0, 118, 0, 0, 108, 0, 0, 108, 0, 0, 108, 0, 0, 108, 0, 0, 108, 0, 0, 110, 108, 0, 118, 108, 0, 118, 108, 0, 118, 118, 0, 118, 118, 0, 118, 108, 0, 108, 0, 0, 116, 116, 0, 119, 118, 0, 119, 0, 0, 119, 0, 0, 119, 0, 0, 119, 108, 0, 119, 0, 0, 119, 0, 0, 118, 0, 0, 118, 0, 0, 118, 0, 0, 108, 0, 0, 98, 108, 0, 98, 108, 108, 110, 108, 0, 0, 0, 0, 108, 108, 0, 108, 108, 0, 0, 0, 0, 108, 108, 0, 110, 108, 0, 0, 0, 0, 118, 0, 0, 119, 108, 0, 119, 0, 0, 0, 0, 0, 0, 0, 0, 0, 0, 0, 0, 0, 0, 0, 0, 0, 0, 0, 0, 0, 0, 0, 0, 0, 0, 0, 0, 0, 0, 0, 0, 0, 0, 0, 0, 0, 0]
def lexH : List Nat := [0, 71, 13, 70, 0, 6, 0, 10, 74, 0, 49, 0, 0, 0, 14, 36, 0, 0, 0, 42, 0, 0, 47, 0, 0, 16, 0, 0, 0, 61, 0, 0, 0, 0, 0, 44, 0, 24, 0, 0, 75, 76, 82, 80, 0, 56, 81, 83, 0, 65, 0, 0, 0, 0, 0, 0, 0, 0, 59, 0, 78, 21, 77, 67, 79, 0, 3, 0, 0, 53, 5, 35, 0, 2, 11, 18, 20, 66, 0, 0, 0, 0, 0, 0, 0, 0, 0, 0, 0, 0, 0, 0, 68, 0, 0, 0, 0, 0, 0, 45, 0, 0, 19, 0, 0, 0, 0, 23, 51, 15, 0, 0, 25, 0, 0, 0, 0, 0, 0, 8, 0, 69, 0, 84, 0, 0, 0, 0, 0, 0, 0, 0, 0, 0, 0, 0, 4, 0, 0, 60, 0, 0, 0, 0, 0, 0, 33, 64, 0, 0, 39, 41, 0, 0, 0, 63, 0, 0, 46, 0, 0, 0, 0, 0, 0, 0, 34, 0, 0, 0, 0, 0, 0, 57, 0, 0, 38, 12, 0, 0, 0, 0, 27, 0, 0, 0, 0, 54, 32, 72, 1, 17, 0, 0, 0, 28, 37, 0, 0, 0, 0, 0, 0, 0, 0, 0, 0, 40, 0, 0, 0, 31, 0, 0, 62, 29, 0, 0, 0, 85, 0, 55, 0, 9, 0, 0, 48, 30, 0, 0, 73, 0, 0, 43, 0, 0, 0, 0, 50, 22, 52, 0, 0, 0, 7, 0, 0, 26, 0, 0, 0, 0, 0, 58, 0, 0]
def lexOk (a : Nat → Nat → Int32) : Prop := (∀ k, k < 600 → a 5 k = nI (lexL.getD k 0)) ∧ (∀ k, k < 86 → a 6 k = nI (lexS.getD k 0)) ∧ (∀ k, k < 86 → a 7 k = nI (lexA.getD k 0)) ∧ (∀ k, k < 258 → a 8 k = nI (lexK.getD k 0)) ∧ (∀ k, k < 256 → a 9 k = nI (lexH.getD k 0))
def lexW (c : Nat) : List Nat := aWords.getD (c - 1) []
/-- where its letters stand -/
def lexAt (c : Nat) : Bool := decide (lexS.getD c 0 + (lexW c).length < 600 ∧ (lexW c).length ≤ 30 ∧ lexW c ≠ [] ∧ lexL.getD (lexS.getD c 0 + (lexW c).length) 0 = 0) && (List.range (lexW c).length).all (fun k => lexL.getD (lexS.getD c 0 + k) 0 == (lexW c).getD k 0) && (lexW c).all (fun x => decide (33 ≤ x ∧ x ≤ 126))
set_option maxRecDepth 100000 in
theorem lexAt_all : ∀ c, c < 86 → 1 ≤ c → lexAt c = true := by
  have h : (List.range 86).all (fun c => c == 0 || lexAt c) = true := by decide +kernel
  intro c h1 h2
  have := List.all_eq_true.mp h c (List.mem_range.mpr h1)
  rcases Nat.eq_zero_or_pos c with rfl | h3
  · omega
  · have e : (c == 0) = false := beq_eq_false_iff_ne.mpr (by omega)
    rw [e, Bool.false_or] at this
    exact this
theorem lexAt_of {c : Nat} (h1 : 1 ≤ c) (h2 : c < 86) : lexS.getD c 0 + (lexW c).length < 600 ∧ (lexW c).length ≤ 30 ∧ lexW c ≠ [] ∧ lexL.getD (lexS.getD c 0 + (lexW c).length) 0 = 0 ∧ (∀ k (h : k < (lexW c).length), lexL.getD (lexS.getD c 0 + k) 0 = (lexW c)[k]'h) ∧ okLs (lexW c) := by
  have h := lexAt_all c h2 h1
  unfold lexAt at h
  rw [Bool.and_eq_true, Bool.and_eq_true, decide_eq_true_eq, List.all_eq_true, List.all_eq_true] at h
  obtain ⟨⟨⟨q1, q2, q3, q4⟩, q5⟩, q6⟩ := h
  refine ⟨q1, q2, q3, q4, fun k hk => ?_, fun x hx => ?_⟩
  · have := q5 k (List.mem_range.mpr hk)
    rw [beq_iff_eq, getD_in hk] at this
    exact this
  · exact of_decide_eq_true (q6 x hx)
/-- the letters of a word, a 0 behind them, in a row -/
def inRow (f : Nat → Int32) (N p : Nat) (l : List Nat) : Prop := p + l.length < N ∧ okLs l ∧ (∀ k (h : k < l.length), f (p + k) = nI (l[k]'h)) ∧ f (p + l.length) = nI 0
theorem cWd_row {f : Nat → Int32} {top p N : Nat} {l : List Nat} (h : cWd f top p l) (hN : top ≤ N) : inRow f N p l := by
  obtain ⟨q1, q2, q3, q4, q5, q6, q7, q8⟩ := h
  exact ⟨by omega, q5, q6, q7⟩
theorem lex_row {a : Nat → Nat → Int32} (hx : lexOk a) {c : Nat} (h1 : 1 ≤ c) (h2 : c < 86) : inRow (a 5) 600 (lexS.getD c 0) (lexW c) := by
  obtain ⟨q1, q2, q3, q4, q5, q6⟩ := lexAt_of h1 h2
  refine ⟨q1, q6, fun k hk => ?_, ?_⟩
  · rw [hx.1 _ (by omega), q5 k hk]
  · rw [hx.1 _ (by omega), q4]
theorem lx_isAt_b {n : Nat} {g : Nat → Nat} {i : Nat → Int32} {a : Nat → Nat → Int32} (hg : g 0 ≤ 340000) {p q : Nat} {l r : List Nat} (h : inRow (a 0) (g 0) p l) (h' : inRow (a 5) 600 q r) : ∀ (m k f : Nat), l.length + r.length ≤ 2 * k + m → m + 1 < f → k ≤ l.length → k ≤ r.length → (∀ j, j < k → l[j]? = r[j]?) → m_Lexicon_isAt_a0_b11 n g i a f (nI p) (nI q) (nI k) = some (b1 (decide (r = l))) := by
  obtain ⟨q4, q5, q6, q7⟩ := h
  obtain ⟨r4, r5, r6, r7⟩ := h'
  intro m
  induction m with
  | zero =>
    intro k f e hf hk hk2 hj
    obtain ⟨f, rfl⟩ : ∃ f', f = f' + 1 := ⟨f - 1, by omega⟩
    have el : l.length = k := by omega
    have er : r.length = k := by omega
    have elr : r = l := by
      apply List.ext_getElem?
      intro j
      rcases Nat.lt_or_ge j k with h | h
      · exact (hj j h).symm
      · rw [List.getElem?_eq_none (by omega), List.getElem?_eq_none (by omega)]
    have e2 : a 0 (p + k) = nI 0 := by rw [← q7, el]
    have e3 : a 5 (q + k) = nI 0 := by rw [← r7, er]
    rw [m_Lexicon_isAt_a0_b11]
    simp (disch := omega) only [ob_s, ob0_s, ob1_s, i32_lit, ile_p, ile_n, ilt_p, ilt_n, ieq_p, ieq_n, ck_n, cl_n, sub_n, nI_add, sh_w, sh_l, an3_w, an3_l, an1_w, an1_l, hN_1, hN_3w, hN_3l, if_true, if_false, e2, e3, elr, decide_true, b1_t]
  | succ m ih =>
    intro k f e hf hk hk2 hj
    obtain ⟨f, rfl⟩ : ∃ f', f = f' + 1 := ⟨f - 1, by omega⟩
    rw [m_Lexicon_isAt_a0_b11]
    rcases Nat.lt_or_ge k l.length with hkl | hkl
    · have e2 := q6 k hkl
      have e3 := q5 _ (List.getElem_mem (h := hkl))
      rcases Nat.lt_or_ge k r.length with hkr | hkr
      · have e4 := r6 k hkr
        have e5 := r5 _ (List.getElem_mem (h := hkr))
        rcases Classical.em (l[k] = r[k]) with he | he
        · simp (disch := omega) only [ob_s, ob0_s, ob1_s, i32_lit, ile_p, ile_n, ilt_p, ilt_n, ieq_p, ieq_n, ck_n, cl_n, sub_n, nI_add, sh_w, sh_l, an3_w, an3_l, an1_w, an1_l, hN_1, hN_3w, hN_3l, if_true, if_false, e2, e4, he]
          exact ih (k + 1) f (by omega) (by omega) (by omega) (by omega) (fun j hjk => by
            rcases Nat.lt_or_ge j k with h | h
            · exact hj j h
            · obtain rfl : j = k := by omega
              rw [List.getElem?_eq_getElem hkl, List.getElem?_eq_getElem hkr, he])
        · have ne : r ≠ l := fun e => he (by subst e; rfl)
          simp (disch := omega) only [ob_s, ob0_s, ob1_s, i32_lit, ile_p, ile_n, ilt_p, ilt_n, ieq_p, ieq_n, ck_n, cl_n, sub_n, nI_add, sh_w, sh_l, an3_w, an3_l, an1_w, an1_l, hN_1, hN_3w, hN_3l, if_true, if_false, e2, e4, ne, decide_false, b1_f]
      · have ne : r ≠ l := fun e => by rw [← e] at hkl; omega
        have e4 : a 5 (q + k) = nI 0 := by rw [← r7, show r.length = k by omega]
        simp (disch := omega) only [ob_s, ob0_s, ob1_s, i32_lit, ile_p, ile_n, ilt_p, ilt_n, ieq_p, ieq_n, ck_n, cl_n, sub_n, nI_add, sh_w, sh_l, an3_w, an3_l, an1_w, an1_l, hN_1, hN_3w, hN_3l, if_true, if_false, e2, e4, ne, decide_false, b1_f]
    · have e2 : a 0 (p + k) = nI 0 := by rw [← q7, show l.length = k by omega]
      rcases Nat.lt_or_ge k r.length with hkr | hkr
      · have e4 := r6 k hkr
        have e5 := r5 _ (List.getElem_mem (h := hkr))
        have ne : r ≠ l := fun e => by rw [← e] at hkl; omega
        simp (disch := omega) only [ob_s, ob0_s, ob1_s, i32_lit, ile_p, ile_n, ilt_p, ilt_n, ieq_p, ieq_n, ck_n, cl_n, sub_n, nI_add, sh_w, sh_l, an3_w, an3_l, an1_w, an1_l, hN_1, hN_3w, hN_3l, if_true, if_false, e2, e4, ne, decide_false, b1_f]
      · have e4 : a 5 (q + k) = nI 0 := by rw [← r7, show r.length = k by omega]
        have elr : r = l := by
          apply List.ext_getElem?
          intro j
          rcases Nat.lt_or_ge j k with h | h
          · exact (hj j h).symm
          · rw [List.getElem?_eq_none (by omega), List.getElem?_eq_none (by omega)]
        simp (disch := omega) only [ob_s, ob0_s, ob1_s, i32_lit, ile_p, ile_n, ilt_p, ilt_n, ieq_p, ieq_n, ck_n, cl_n, sub_n, nI_add, sh_w, sh_l, an3_w, an3_l, an1_w, an1_l, hN_1, hN_3w, hN_3l, if_true, if_false, e2, e4, elr, decide_true, b1_t]
theorem lx_isAt {n : Nat} {g : Nat → Nat} {i : Nat → Int32} {a : Nat → Nat → Int32} (hg : g 0 ≤ 340000) (hx : lexOk a) {p c : Nat} {l : List Nat} (hn : 100 ≤ n) (h : inRow (a 0) (g 0) p l) (hl : l.length ≤ 30) (h1 : 1 ≤ c) (h2 : c < 86) : m_Lexicon_isAt_a0 n g i a (nI c) (nI p) = some (b1 (decide (lexW c = l))) := by
  unfold m_Lexicon_isAt_a0
  have e := hx.2.1 c h2
  have q := lexAt_of h1 h2
  have := lx_isAt_b (n := n) (i := i) hg h (lex_row hx h1 h2) (l.length + (lexW c).length) 0 n (by omega) (by omega) (by omega) (by omega) (fun j hj => absurd hj (Nat.not_lt_zero j))
  simp (disch := omega) only [ob_s, ob0_s, ob1_s, i32_lit, ile_p, ile_n, ilt_p, ilt_n, ieq_p, ieq_n, ck_n, cl_n, sub_n, nI_add, sh_w, sh_l, an3_w, an3_l, an1_w, an1_l, hN_1, hN_3w, hN_3l, if_true, if_false, e]
  exact this
def hashN : List Nat → Nat → Nat
  | [], h => h
  | c :: l, h => hashN l (31 * h + c)
theorem lx_hash_b {n : Nat} {g : Nat → Nat} {i : Nat → Int32} {a : Nat → Nat → Int32} (hg : g 0 ≤ 340000) : ∀ (l : List Nat) (p f h : Nat), inRow (a 0) (g 0) p l → l.length < f → m_Lexicon_hashOf_a0_b8 n g i a f (nI h) (nI p) = some (nI (hashN l h)) := by
  intro l
  induction l with
  | nil =>
    intro p f h hr hf
    obtain ⟨q4, q5, q6, q7⟩ := hr
    obtain ⟨f, rfl⟩ : ∃ f', f = f' + 1 := ⟨f - 1, by omega⟩
    rw [m_Lexicon_hashOf_a0_b8]
    have e : a 0 p = nI 0 := q7
    simp only [List.length_nil] at q4
    simp (disch := omega) only [ob_s, ob0_s, ob1_s, i32_lit, ile_p, ile_n, ilt_p, ilt_n, ieq_p, ieq_n, ck_n, cl_n, sub_n, nI_add, sh_w, sh_l, an3_w, an3_l, an1_w, an1_l, hN_1, hN_3w, hN_3l, if_true, if_false, e, hashN]
  | cons c l ih =>
    intro p f h hr hf
    obtain ⟨q4, q5, q6, q7⟩ := hr
    obtain ⟨f, rfl⟩ : ∃ f', f = f' + 1 := ⟨f - 1, by omega⟩
    rw [m_Lexicon_hashOf_a0_b8]
    have e : a 0 p = nI c := q6 0 (by simp)
    have e2 := q5 c (by simp)
    simp only [List.length_cons] at q4 q7 hf
    simp (disch := omega) only [ob_s, ob0_s, ob1_s, i32_lit, ile_p, ile_n, ilt_p, ilt_n, ieq_p, ieq_n, ck_n, cl_n, sub_n, nI_add, sh_w, sh_l, an3_w, an3_l, an1_w, an1_l, hN_1, hN_3w, hN_3l, if_true, if_false, e, hashN, pk_mul]
    refine ih (p + 1) f _ ⟨by omega, fun x hx => q5 x (List.mem_cons_of_mem _ hx), fun k hk => ?_, ?_⟩ (by omega)
    · have := q6 (k + 1) (by simp; omega)
      rw [show p + 1 + k = p + (k + 1) by omega]
      exact this
    · rw [← q7]; congr 1; omega
def prb (l : List Nat) (h : Nat) : Nat → Nat → Nat
  | 0, _ => 0
  | f + 1, k => if 256 ≤ k then 0 else if lexH.getD ((h + k) % 256) 0 = 0 then 0 else if lexW (lexH.getD ((h + k) % 256) 0) = l then lexH.getD ((h + k) % 256) 0 else prb l h f (k + 1)
set_option maxRecDepth 100000 in
theorem lexH_lt (k : Nat) : lexH.getD k 0 < 86 := by
  have h : (List.range 256).all (fun k => decide (lexH.getD k 0 < 86)) = true := by decide +kernel
  rcases Nat.lt_or_ge k 256 with hk | hk
  · exact of_decide_eq_true (List.all_eq_true.mp h k (List.mem_range.mpr hk))
  · have e : lexH.length = 256 := by decide +kernel
    rw [getD_out (by omega)]
    decide
theorem nI_255 (n : Nat) : nI n &&& nI 255 = nI (n % 256) := by
  rw [pk_and _ 8 (by decide)]
  congr 1
  show n % 2 ^ 32 % 256 = n % 256
  omega
theorem lx_prb {n : Nat} {g : Nat → Nat} {i : Nat → Int32} {a : Nat → Nat → Int32} (hg : g 0 ≤ 340000) (hx : lexOk a) {p h : Nat} {l : List Nat} (hn : 100 ≤ n) (hr : inRow (a 0) (g 0) p l) (hl : l.length ≤ 30) : ∀ (m k f : Nat), 257 ≤ k + m → m ≤ f → k ≤ 256 → m_Lexicon_meaning_a0_b43 n g i a f (nI p) (nI h) (nI k) = some (nI (prb l h m k)) := by
  intro m
  induction m with
  | zero => intro k f e1 e2 e3; omega
  | succ m ih =>
    intro k f e1 e2 e3
    obtain ⟨f, rfl⟩ : ∃ f', f = f' + 1 := ⟨f - 1, by omega⟩
    rw [m_Lexicon_meaning_a0_b43, prb]
    rcases Nat.lt_or_ge k 256 with hk | hk
    · rw [if_neg (by omega : ¬ 256 ≤ k)]
      have e := hx.2.2.2.2 ((h + k) % 256) (Nat.mod_lt _ (by decide))
      have e9 := lexH_lt ((h + k) % 256)
      have e8 := Nat.mod_lt (h + k) (show 256 > 0 by decide)
      simp (disch := omega) only [ob_s, ob0_s, ob1_s, i32_lit, ile_p, ile_n, ilt_p, ilt_n, ieq_p, ieq_n, ck_n, cl_n, sub_n, nI_add, sh_w, sh_l, an3_w, an3_l, an1_w, an1_l, hN_1, hN_3w, hN_3l, if_true, if_false, nI_255, e]
      rcases Classical.em (lexH.getD ((h + k) % 256) 0 = 0) with hz | hz
      · rw [if_pos hz, hz, if_pos rfl]
      · rw [if_neg hz, if_neg (fun e => hz ((nI_eq (by omega) (by omega)).mp e)), lx_isAt hg hx hn hr hl (by omega) e9]
        rcases Classical.em (lexW (lexH.getD ((h + k) % 256) 0) = l) with hw | hw
        · rw [if_pos hw]
          simp (disch := omega) only [ob_s, ob0_s, ob1_s, i32_lit, ile_p, ile_n, ilt_p, ilt_n, ieq_p, ieq_n, ck_n, cl_n, sub_n, nI_add, sh_w, sh_l, an3_w, an3_l, an1_w, an1_l, hN_1, hN_3w, hN_3l, if_true, if_false, hw, decide_true, b1_t]
        · rw [if_neg hw]
          simp (disch := omega) only [ob_s, ob0_s, ob1_s, i32_lit, ile_p, ile_n, ilt_p, ilt_n, ieq_p, ieq_n, ck_n, cl_n, sub_n, nI_add, sh_w, sh_l, an3_w, an3_l, an1_w, an1_l, hN_1, hN_3w, hN_3l, if_true, if_false, hw, decide_false, b1_f]
          exact ih (k + 1) f (by omega) (by omega) (by omega)
    · rw [if_pos (by omega : 256 ≤ k)]
      simp (disch := omega) only [ob_s, ob0_s, ob1_s, i32_lit, ile_p, ile_n, ilt_p, ilt_n, ieq_p, ieq_n, ck_n, cl_n, sub_n, nI_add, sh_w, sh_l, an3_w, an3_l, an1_w, an1_l, hN_1, hN_3w, hN_3l, if_true, if_false]
theorem aIx_no {l : List Nat} : ∀ (ws : List (List Nat)) (k : Nat), l ∉ ws → aIx l ws k = 0 := by
  intro ws
  induction ws with
  | nil => intro k h; rfl
  | cons w ws ih =>
    intro k h
    rw [aIx, if_neg (fun e => h (by rw [e]; exact List.mem_cons_self)), ih _ (fun e => h (List.mem_cons_of_mem _ e))]
theorem prb_no {l : List Nat} (hl : l ∉ aWords) (h : Nat) : ∀ m k, prb l h m k = 0 := by
  intro m
  induction m with
  | zero => intro k; rfl
  | succ m ih =>
    intro k
    rw [prb]
    rcases Nat.lt_or_ge k 256 with hk | hk
    · rw [if_neg (by omega : ¬ 256 ≤ k)]
      rcases Classical.em (lexH.getD ((h + k) % 256) 0 = 0) with hz | hz
      · rw [if_pos hz]
      · rw [if_neg hz, if_neg, ih]
        intro e
        apply hl
        have := lexH_lt ((h + k) % 256)
        have el : aWords.length = 85 := by decide +kernel
        rw [← e]
        unfold lexW
        rw [getD_in (by omega)]
        exact List.getElem_mem _
    · rw [if_pos (by omega : 256 ≤ k)]
set_option maxRecDepth 100000 in
theorem prb_yes : ∀ l ∈ aWords, prb l (hashN l 0) 257 0 = aIx l aWords 1 := by
  have h : aWords.all (fun l => prb l (hashN l 0) 257 0 == aIx l aWords 1) = true := by decide +kernel
  intro l hl
  exact beq_iff_eq.mp (List.all_eq_true.mp h l hl)
theorem prb_all (l : List Nat) : prb l (hashN l 0) 257 0 = aIx l aWords 1 := by
  rcases Classical.em (l ∈ aWords) with h | h
  · exact prb_yes l h
  · rw [prb_no h, aIx_no _ _ h]
theorem lx_meaning {n : Nat} {g : Nat → Nat} {i : Nat → Int32} {a : Nat → Nat → Int32} (hg : g 0 ≤ 340000) (hx : lexOk a) {p : Nat} {l : List Nat} (hn : 1000 ≤ n) (hr : inRow (a 0) (g 0) p l) (hl : l.length ≤ 30) (h0 : l ≠ []) : m_Lexicon_meaning_a0 n g i a (nI p) = some (nI (aLex l)) := by
  obtain ⟨c, r, rfl⟩ := List.exists_cons_of_ne_nil h0
  have e : a 0 p = nI c := hr.2.2.1 0 (by simp)
  have e2 := hr.2.1 c (by simp)
  have := hr.1
  have e3 := lx_hash_b (n := n) (i := i) hg (c :: r) p n 0 hr (by omega)
  have e4 := lx_prb (n := n) (i := i) (h := hashN (c :: r) 0) hg hx (by omega) hr hl 257 0 n (by omega) (by omega) (by omega)
  unfold m_Lexicon_meaning_a0 aLex
  rw [List.head?_cons]
  rcases Classical.em (c = 34) with rfl | h34
  · simp (disch := omega) only [ob_s, ob0_s, ob1_s, i32_lit, ile_p, ile_n, ilt_p, ilt_n, ieq_p, ieq_n, ck_n, cl_n, sub_n, nI_add, sh_w, sh_l, an3_w, an3_l, an1_w, an1_l, hN_1, hN_3w, hN_3l, if_true, if_false, e]
  rcases Classical.em (c = 58) with rfl | h58
  · simp (disch := omega) only [ob_s, ob0_s, ob1_s, i32_lit, ile_p, ile_n, ilt_p, ilt_n, ieq_p, ieq_n, ck_n, cl_n, sub_n, nI_add, sh_w, sh_l, an3_w, an3_l, an1_w, an1_l, hN_1, hN_3w, hN_3l, if_true, if_false, e, reduceCtorEq, Option.some.injEq, h34]
  have em : m_Math_max n (nI p) (nI 0) = some (nI p) := by
    unfold m_Math_max
    simp (disch := omega) only [ob_s, ob0_s, ob1_s, i32_lit, ile_p, ile_n, ilt_p, ilt_n, ieq_p, ieq_n, ck_n, cl_n, sub_n, nI_add, sh_w, sh_l, an3_w, an3_l, an1_w, an1_l, hN_1, hN_3w, hN_3l, if_true, if_false]
  simp (disch := omega) only [ob_s, ob0_s, ob1_s, i32_lit, ile_p, ile_n, ilt_p, ilt_n, ieq_p, ieq_n, ck_n, cl_n, sub_n, nI_add, sh_w, sh_l, an3_w, an3_l, an1_w, an1_l, hN_1, hN_3w, hN_3l, if_true, if_false, e, reduceCtorEq, Option.some.injEq, h34, h58]
  unfold m_Lexicon_hashOf_a0
  simp (disch := omega) only [ob_s, ob0_s, ob1_s, i32_lit, ile_p, ile_n, ilt_p, ilt_n, ieq_p, ieq_n, ck_n, cl_n, sub_n, nI_add, sh_w, sh_l, an3_w, an3_l, an1_w, an1_l, hN_1, hN_3w, hN_3l, if_true, if_false, em, e3, e4, prb_all]
theorem aIx_lt {l : List Nat} : ∀ (ws : List (List Nat)) (k : Nat), aIx l ws k < k + ws.length ∨ aIx l ws k = 0 := by
  intro ws
  induction ws with
  | nil => intro k; exact Or.inr rfl
  | cons w ws ih =>
    intro k
    rw [aIx]
    rcases Classical.em (w = l) with h | h
    · rw [if_pos h]; left; simp
    · rw [if_neg h]
      rcases ih (k + 1) with h | h
      · left; simp; omega
      · right; exact h
theorem aWords_len : aWords.length = 85 := by decide +kernel
theorem aLex_lt (l : List Nat) : aLex l < 88 := by
  unfold aLex
  rcases Classical.em (l.head? = some 34) with h | h
  · rw [if_pos h]; decide
  rw [if_neg h]
  rcases Classical.em (l.head? = some 58) with h | h
  · rw [if_pos h]; decide
  rw [if_neg h]
  have := aIx_lt (l := l) aWords 1
  rw [aWords_len] at this
  omega
theorem h_meaning {n : Nat} {g : Nat → Nat} {i : Nat → Int32} {a : Nat → Nat → Int32} {top : Nat} (ht : top ≤ g 0) (hg : g 0 ≤ 340000) {l : List Nat} {v : Int32} (hx : lexOk a) (hn : 1000 ≤ n) (h : cV (a 0) top (tW l) none v) : m_Heap_meaning n g i a v = some (nI (aLex l)) := by
  obtain ⟨p, rfl, h3⟩ := cV_tW.mp h
  have e := lx_meaning (n := n) (i := i) hg hx hn (cWd_row h3 ht) h3.2.2.1 h3.2.1
  obtain ⟨q1, q2, q3, q4, q5, q6, q7, q8⟩ := h3
  have el := aLex_lt l
  unfold m_Heap_meaning
  rcases q8 with ⟨q8, _⟩ | ⟨q8 | q8, _⟩
  · simp (disch := omega) only [ob_s, ob0_s, ob1_s, i32_lit, ile_p, ile_n, ilt_p, ilt_n, ieq_p, ieq_n, ck_n, cl_n, sub_n, nI_add, sh_w, sh_l, an3_w, an3_l, an1_w, an1_l, hN_1, hN_3w, hN_3l, if_true, if_false, q8]
    rw [show 128 + aLex l - 128 = aLex l by omega]
  · simp (disch := omega) only [ob_s, ob0_s, ob1_s, i32_lit, ile_p, ile_n, ilt_p, ilt_n, ieq_p, ieq_n, ck_n, cl_n, sub_n, nI_add, sh_w, sh_l, an3_w, an3_l, an1_w, an1_l, hN_1, hN_3w, hN_3l, if_true, if_false, q8, e]
  · simp (disch := omega) only [ob_s, ob0_s, ob1_s, i32_lit, ile_p, ile_n, ilt_p, ilt_n, ieq_p, ieq_n, ck_n, cl_n, sub_n, nI_add, sh_w, sh_l, an3_w, an3_l, an1_w, an1_l, hN_1, hN_3w, hN_3l, if_true, if_false, q8, e]

