/-! reading the class's cells -/
def b1 (b : Bool) : Int32 := if b then nI 1 else nI 0
theorem b1_t : b1 true = nI 1 := (rfl)
theorem b1_f : b1 false = nI 0 := (rfl)
theorem cV_kinds {f : Nat → Int32} {top : Nat} {t : Tr} {v : Int32} (ht : top ≤ 340000) (h : cV f top t none v) (n : Nat) : m_Heap_isWord n v = some (b1 (isW t)) ∧ m_Heap_isList n v = some (b1 (isL t)) ∧ m_Heap_isNumber n v = some (b1 (isN t)) := by
  rcases cV_cases h with ⟨k, rfl, h1, h2, rfl⟩ | ⟨l, p, rfl, rfl, h3⟩ | ⟨ms, p, rfl, rfl, h3, h4⟩
  · rw [isW_tN, isL_tN, isN_tN]
    unfold m_Heap_isWord m_Heap_isList m_Heap_isNumber
    simp (disch := omega) only [ob_s, ob0_s, ob1_s, i32_lit, ile_p, ile_n, ilt_p, ilt_n, ieq_p, ieq_n, ck_n, cl_n, sub_n, nI_add, sh_w, sh_l, an3_w, an3_l, an1_w, an1_l, hN_1, hN_3w, hN_3l, if_true, if_false, b1_t, b1_f, and_self]
  · rw [isW_tW, isL_tW, isN_tW]
    have := h3.1; have := h3.2.2.2.1
    unfold m_Heap_isWord m_Heap_isList m_Heap_isNumber
    simp (disch := omega) only [ob_s, ob0_s, ob1_s, i32_lit, ile_p, ile_n, ilt_p, ilt_n, ieq_p, ieq_n, ck_n, cl_n, sub_n, nI_add, sh_w, sh_l, an3_w, an3_l, an1_w, an1_l, hN_1, hN_3w, hN_3l, if_true, if_false, b1_t, b1_f, and_self]
  · rw [isW_tL, isL_tL, isN_tL]
    have := h3.1; have := h3.2.1
    unfold m_Heap_isWord m_Heap_isList m_Heap_isNumber
    simp (disch := omega) only [ob_s, ob0_s, ob1_s, i32_lit, ile_p, ile_n, ilt_p, ilt_n, ieq_p, ieq_n, ck_n, cl_n, sub_n, nI_add, sh_w, sh_l, an3_w, an3_l, an1_w, an1_l, hN_1, hN_3w, hN_3l, if_true, if_false, b1_t, b1_f, and_self]
/-- no handle is one of the marks that no value is held as -/
theorem cV_ne {f : Nat → Int32} {top : Nat} {t : Tr} {v : Int32} (ht : top ≤ 340000) (h : cV f top t none v) : -2000000000 ≤ v.toInt := by
  rcases cV_cases h with ⟨k, rfl, h1, h2, rfl⟩ | ⟨l, p, rfl, rfl, h3⟩ | ⟨ms, p, rfl, rfl, h3, h4⟩
  · rw [hN_int h1 h2]; omega
  · have := h3.1; have := h3.2.2.2.1
    rw [nI_toInt (by omega)]; omega
  · have := h3.1; have := h3.2.1
    rw [nI_toInt (by omega)]; omega
theorem cV_no {f : Nat → Int32} {top : Nat} {t : Tr} {v : Int32} (ht : top ≤ 340000) (h : cV f top t none v) : v ≠ -nI 2147483648 := by
  intro e
  have := cV_ne ht h
  rw [e] at this
  exact absurd this (by decide)
theorem h_count {n : Nat} {g : Nat → Nat} {i : Nat → Int32} {a : Nat → Nat → Int32} {top : Nat} (ht : top ≤ g 0) (hg : g 0 ≤ 340000) {t : Tr} {v : Int32} (h : cV (a 0) top t none v) : m_Heap_count n g i a v = some (nI (tMem t).length) := by
  unfold m_Heap_count
  rcases cV_cases h with ⟨k, rfl, h1, h2, rfl⟩ | ⟨l, p, rfl, rfl, h3⟩ | ⟨ms, p, rfl, rfl, h3, h4⟩
  · simp (disch := omega) only [ob_s, ob0_s, ob1_s, i32_lit, ile_p, ile_n, ilt_p, ilt_n, ieq_p, ieq_n, ck_n, cl_n, sub_n, nI_add, sh_w, sh_l, an3_w, an3_l, an1_w, an1_l, hN_1, hN_3w, hN_3l, if_true, if_false]
    rfl
  · have := h3.1; have := h3.2.2.2.1
    simp (disch := omega) only [ob_s, ob0_s, ob1_s, i32_lit, ile_p, ile_n, ilt_p, ilt_n, ieq_p, ieq_n, ck_n, cl_n, sub_n, nI_add, sh_w, sh_l, an3_w, an3_l, an1_w, an1_l, hN_1, hN_3w, hN_3l, if_true, if_false]
    cases l <;> rfl
  · obtain ⟨q1, q2, q3, q4, q5⟩ := h3
    simp (disch := omega) only [ob_s, ob0_s, ob1_s, i32_lit, ile_p, ile_n, ilt_p, ilt_n, ieq_p, ieq_n, ck_n, cl_n, sub_n, nI_add, sh_w, sh_l, an3_w, an3_l, an1_w, an1_l, hN_1, hN_3w, hN_3l, if_true, if_false, q5, hd_c, tMem_tL]
theorem h_member {n : Nat} {g : Nat → Nat} {i : Nat → Int32} {a : Nat → Nat → Int32} {top : Nat} (ht : top ≤ g 0) (hg : g 0 ≤ 340000) {ms : List Tr} {v : Int32} (h : cV (a 0) top (tL ms) none v) {k : Nat} (hk : k < ms.length) : ∃ x, m_Heap_member n g i a v (nI k) = some x ∧ cV (a 0) top (ms[k]'hk) none x := by
  have hc := h_count (n := n) (i := i) ht hg h
  rw [tMem_tL] at hc
  obtain ⟨p, rfl, ⟨q1, q2, q3, q4, q5⟩, h4⟩ := cV_tL.mp h
  refine ⟨a 0 (p + 1 + k), ?_, h4 k hk⟩
  unfold m_Heap_member
  simp (disch := omega) only [ob_s, ob0_s, ob1_s, i32_lit, ile_p, ile_n, ilt_p, ilt_n, ieq_p, ieq_n, ck_n, cl_n, sub_n, nI_add, sh_w, sh_l, an3_w, an3_l, an1_w, an1_l, hN_1, hN_3w, hN_3l, if_true, if_false, hc]
theorem h_member_no {n : Nat} {g : Nat → Nat} {i : Nat → Int32} {a : Nat → Nat → Int32} {top : Nat} (ht : top ≤ g 0) (hg : g 0 ≤ 340000) {ms : List Tr} {v : Int32} (h : cV (a 0) top (tL ms) none v) {k : Nat} (hk : ms.length ≤ k) (hk2 : k < 2147483648) : m_Heap_member n g i a v (nI k) = some (-nI 2147483648) := by
  have hc := h_count (n := n) (i := i) ht hg h
  rw [tMem_tL] at hc
  obtain ⟨p, rfl, ⟨q1, q2, q3, q4, q5⟩, h4⟩ := cV_tL.mp h
  unfold m_Heap_member
  simp (disch := omega) only [ob_s, ob0_s, ob1_s, i32_lit, ile_p, ile_n, ilt_p, ilt_n, ieq_p, ieq_n, ck_n, cl_n, sub_n, nI_add, sh_w, sh_l, an3_w, an3_l, an1_w, an1_l, hN_1, hN_3w, hN_3l, if_true, if_false, hc]
theorem h_size_b {n : Nat} {g : Nat → Nat} {i : Nat → Int32} {a : Nat → Nat → Int32} {top : Nat} (ht : top ≤ g 0) (hg : g 0 ≤ 340000) {p : Nat} {l : List Nat} (h : cWd (a 0) top p l) : ∀ (m k f : Nat), l.length = k + m → m < f → m_Heap_size_b50 n g i a f (nI k) (nI (p + k)) = some (nI l.length) := by
  obtain ⟨q1, q2, q3, q4, q5, q6, q7, q8⟩ := h
  intro m
  induction m with
  | zero =>
    intro k f e hf
    obtain ⟨f, rfl⟩ : ∃ f', f = f' + 1 := ⟨f - 1, by omega⟩
    rw [m_Heap_size_b50]
    have e2 : a 0 (p + k) = nI 0 := by rw [← q7, e]; rfl
    simp (disch := omega) only [ob_s, ob0_s, ob1_s, i32_lit, ile_p, ile_n, ilt_p, ilt_n, ieq_p, ieq_n, ck_n, cl_n, sub_n, nI_add, sh_w, sh_l, an3_w, an3_l, an1_w, an1_l, hN_1, hN_3w, hN_3l, if_true, if_false, e2]
    rw [e]; rfl
  | succ m ih =>
    intro k f e hf
    obtain ⟨f, rfl⟩ : ∃ f', f = f' + 1 := ⟨f - 1, by omega⟩
    rw [m_Heap_size_b50]
    have e2 := q6 k (by omega)
    have e3 := q5 _ (List.getElem_mem (h := show k < l.length by omega))
    simp (disch := omega) only [ob_s, ob0_s, ob1_s, i32_lit, ile_p, ile_n, ilt_p, ilt_n, ieq_p, ieq_n, ck_n, cl_n, sub_n, nI_add, sh_w, sh_l, an3_w, an3_l, an1_w, an1_l, hN_1, hN_3w, hN_3l, if_true, if_false, e2]
    have := ih (k + 1) f (by omega) (by omega)
    rw [show p + (k + 1) = p + k + 1 by omega] at this
    exact this
theorem h_size {n : Nat} {g : Nat → Nat} {i : Nat → Int32} {a : Nat → Nat → Int32} {top : Nat} (ht : top ≤ g 0) (hg : g 0 ≤ 340000) {t : Tr} {v : Int32} (hn : 100 ≤ n) (h : cV (a 0) top t none v) : m_Heap_size n g i a v = some (nI (tSz t)) := by
  unfold m_Heap_size
  rcases cV_cases h with ⟨k, rfl, h1, h2, rfl⟩ | ⟨l, p, rfl, rfl, h3⟩ | ⟨ms, p, rfl, rfl, h3, h4⟩
  · simp (disch := omega) only [ob_s, ob0_s, ob1_s, i32_lit, ile_p, ile_n, ilt_p, ilt_n, ieq_p, ieq_n, ck_n, cl_n, sub_n, nI_add, sh_w, sh_l, an3_w, an3_l, an1_w, an1_l, hN_1, hN_3w, hN_3l, if_true, if_false]
    rfl
  · have e := h_size_b (n := n) (i := i) ht hg h3 l.length 0 n (by omega) (by have := h3.2.2.1; omega)
    have := h3.1; have := h3.2.2.2.1
    simp (disch := omega) only [ob_s, ob0_s, ob1_s, i32_lit, ile_p, ile_n, ilt_p, ilt_n, ieq_p, ieq_n, ck_n, cl_n, sub_n, nI_add, sh_w, sh_l, an3_w, an3_l, an1_w, an1_l, hN_1, hN_3w, hN_3l, if_true, if_false, tSz_tW]
    exact e
  · obtain ⟨q1, q2, q3, q4, q5⟩ := h3
    simp (disch := omega) only [ob_s, ob0_s, ob1_s, i32_lit, ile_p, ile_n, ilt_p, ilt_n, ieq_p, ieq_n, ck_n, cl_n, sub_n, nI_add, sh_w, sh_l, an3_w, an3_l, an1_w, an1_l, hN_1, hN_3w, hN_3l, if_true, if_false, q5, hd_s]
/-- two words -/
theorem nI_letter {x y : Nat} (hx : x ≤ 126) (hy : y ≤ 126) (h : nI x = nI y) : x = y := (nI_eq (by omega) (by omega)).mp h
theorem h_same_b {n : Nat} {g : Nat → Nat} {i : Nat → Int32} {a : Nat → Nat → Int32} {top : Nat} (ht : top ≤ g 0) (hg : g 0 ≤ 340000) {p q : Nat} {l r : List Nat} (h : cWd (a 0) top p l) (h' : cWd (a 0) top q r) : ∀ (m k f : Nat), l.length + r.length ≤ 2 * k + m → m + 1 < f → k ≤ l.length → k ≤ r.length → (∀ j, j < k → l[j]? = r[j]?) → m_Heap_sameWord_b30 n g i a f (nI p) (nI q) (nI k) = some (b1 (decide (l = r))) := by
  obtain ⟨q1, q2, q3, q4, q5, q6, q7, q8⟩ := h
  obtain ⟨r1, r2, r3, r4, r5, r6, r7, r8⟩ := h'
  intro m
  induction m with
  | zero =>
    intro k f e hf hk hk2 hj
    obtain ⟨f, rfl⟩ : ∃ f', f = f' + 1 := ⟨f - 1, by omega⟩
    have el : l.length = k := by omega
    have er : r.length = k := by omega
    have elr : l = r := by
      apply List.ext_getElem?
      intro j
      rcases Nat.lt_or_ge j k with h | h
      · exact hj j h
      · rw [List.getElem?_eq_none (by omega), List.getElem?_eq_none (by omega)]
    have e2 : a 0 (p + k) = nI 0 := by rw [← q7, el]
    have e3 : a 0 (q + k) = nI 0 := by rw [← r7, er]
    rw [m_Heap_sameWord_b30]
    simp (disch := omega) only [ob_s, ob0_s, ob1_s, i32_lit, ile_p, ile_n, ilt_p, ilt_n, ieq_p, ieq_n, ck_n, cl_n, sub_n, nI_add, sh_w, sh_l, an3_w, an3_l, an1_w, an1_l, hN_1, hN_3w, hN_3l, if_true, if_false, e2, e3, elr, decide_true, b1_t]
  | succ m ih =>
    intro k f e hf hk hk2 hj
    obtain ⟨f, rfl⟩ : ∃ f', f = f' + 1 := ⟨f - 1, by omega⟩
    rw [m_Heap_sameWord_b30]
    rcases Nat.lt_or_ge k l.length with hkl | hkl
    · have e2 := q6 k hkl
      have e3 := q5 _ (List.getElem_mem (h := hkl))
      rcases Nat.lt_or_ge k r.length with hkr | hkr
      · have e4 := r6 k hkr
        have e5 := r5 _ (List.getElem_mem (h := hkr))
        rcases Classical.em (l[k] = r[k]) with he | he
        · simp (disch := omega) only [ob_s, ob0_s, ob1_s, i32_lit, ile_p, ile_n, ilt_p, ilt_n, ieq_p, ieq_n, ck_n, cl_n, sub_n, nI_add, sh_w, sh_l, an3_w, an3_l, an1_w, an1_l, hN_1, hN_3w, hN_3l, if_true, if_false, e2, e4, he]
          exact ih (k + 1) f (by omega) (by omega) (by omega) (by omega) (fun j hjk => by
            rcases Nat.lt_or_ge j k with h | h
            · exact hj j h
            · obtain rfl : j = k := by omega
              rw [List.getElem?_eq_getElem hkl, List.getElem?_eq_getElem hkr, he])
        · have ne : l ≠ r := fun e => he (by subst e; rfl)
          simp (disch := omega) only [ob_s, ob0_s, ob1_s, i32_lit, ile_p, ile_n, ilt_p, ilt_n, ieq_p, ieq_n, ck_n, cl_n, sub_n, nI_add, sh_w, sh_l, an3_w, an3_l, an1_w, an1_l, hN_1, hN_3w, hN_3l, if_true, if_false, e2, e4, ne, decide_false, b1_f]
      · have ne : l ≠ r := fun e => by rw [e] at hkl; omega
        have e4 : a 0 (q + k) = nI 0 := by rw [← r7, show r.length = k by omega]
        simp (disch := omega) only [ob_s, ob0_s, ob1_s, i32_lit, ile_p, ile_n, ilt_p, ilt_n, ieq_p, ieq_n, ck_n, cl_n, sub_n, nI_add, sh_w, sh_l, an3_w, an3_l, an1_w, an1_l, hN_1, hN_3w, hN_3l, if_true, if_false, e2, e4, ne, decide_false, b1_f]
    · have e2 : a 0 (p + k) = nI 0 := by rw [← q7, show l.length = k by omega]
      rcases Nat.lt_or_ge k r.length with hkr | hkr
      · have e4 := r6 k hkr
        have e5 := r5 _ (List.getElem_mem (h := hkr))
        have ne : l ≠ r := fun e => by rw [e] at hkl; omega
        simp (disch := omega) only [ob_s, ob0_s, ob1_s, i32_lit, ile_p, ile_n, ilt_p, ilt_n, ieq_p, ieq_n, ck_n, cl_n, sub_n, nI_add, sh_w, sh_l, an3_w, an3_l, an1_w, an1_l, hN_1, hN_3w, hN_3l, if_true, if_false, e2, e4, ne, decide_false, b1_f]
      · have e4 : a 0 (q + k) = nI 0 := by rw [← r7, show r.length = k by omega]
        have elr : l = r := by
          apply List.ext_getElem?
          intro j
          rcases Nat.lt_or_ge j k with h | h
          · exact hj j h
          · rw [List.getElem?_eq_none (by omega), List.getElem?_eq_none (by omega)]
        simp (disch := omega) only [ob_s, ob0_s, ob1_s, i32_lit, ile_p, ile_n, ilt_p, ilt_n, ieq_p, ieq_n, ck_n, cl_n, sub_n, nI_add, sh_w, sh_l, an3_w, an3_l, an1_w, an1_l, hN_1, hN_3w, hN_3l, if_true, if_false, e2, e4, elr, decide_true, b1_t]
theorem cWd_inj {f : Nat → Int32} {top p : Nat} {l r : List Nat} (h : cWd f top p l) (h' : cWd f top p r) : l = r := by
  obtain ⟨q1, q2, q3, q4, q5, q6, q7, q8⟩ := h
  obtain ⟨r1, r2, r3, r4, r5, r6, r7, r8⟩ := h'
  have key : ∀ {l r : List Nat}, okLs l → (∀ k (h : k < l.length), f (p + k) = nI (l[k]'h)) → f (p + r.length) = nI 0 → r.length < l.length → False := by
    intro l r h1 h2 h3 h4
    have := h2 r.length h4
    rw [h3] at this
    have e3 := h1 _ (List.getElem_mem (h := h4))
    have := (nI_eq (by omega) (by omega)).mp this
    omega
  have e : l.length = r.length := by
    rcases Nat.lt_trichotomy l.length r.length with h | h | h
    · exact (key r5 r6 q7 h).elim
    · exact h
    · exact (key q5 q6 r7 h).elim
  apply List.ext_getElem e
  intro k h1 h2
  have e1 := q6 k h1
  have e2 := r6 k h2
  rw [e1] at e2
  exact nI_letter (q5 _ (List.getElem_mem (h := h1))).2 (r5 _ (List.getElem_mem (h := h2))).2 e2
theorem h_sameWord {n : Nat} {g : Nat → Nat} {i : Nat → Int32} {a : Nat → Nat → Int32} {top : Nat} (ht : top ≤ g 0) (hg : g 0 ≤ 340000) {l r : List Nat} {v w : Int32} (hn : 100 ≤ n) (h : cV (a 0) top (tW l) none v) (h' : cV (a 0) top (tW r) none w) : m_Heap_sameWord n g i a v w = some (b1 (decide (l = r))) := by
  obtain ⟨p, rfl, h3⟩ := cV_tW.mp h
  obtain ⟨q, rfl, h4⟩ := cV_tW.mp h'
  have := h3.1; have := h3.2.2.2.1
  have := h4.1; have := h4.2.2.2.1
  have := h3.2.2.1; have := h4.2.2.1
  unfold m_Heap_sameWord
  rcases Classical.em (p = q) with rfl | hpq
  · have e := cWd_inj h3 h4
    subst e
    simp (disch := omega) only [ob_s, ob0_s, ob1_s, i32_lit, ile_p, ile_n, ilt_p, ilt_n, ieq_p, ieq_n, ck_n, cl_n, sub_n, nI_add, sh_w, sh_l, an3_w, an3_l, an1_w, an1_l, hN_1, hN_3w, hN_3l, if_true, if_false, decide_true, b1_t]
  · have e := h_same_b (n := n) (i := i) ht hg h3 h4 (l.length + r.length) 0 n (by omega) (by omega) (by omega) (by omega) (fun j hj => absurd hj (Nat.not_lt_zero j))
    simp (disch := omega) only [ob_s, ob0_s, ob1_s, i32_lit, ile_p, ile_n, ilt_p, ilt_n, ieq_p, ieq_n, ck_n, cl_n, sub_n, nI_add, sh_w, sh_l, an3_w, an3_l, an1_w, an1_l, hN_1, hN_3w, hN_3l, if_true, if_false]
    exact e

