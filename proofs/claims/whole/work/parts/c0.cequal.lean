/-! whether two are equal -/
theorem cV_fun {f : Nat → Int32} {T : Nat} (hT : T ≤ 340000) : ∀ (t : Tr), (∀ u v, cV f T t none v → cV f T u none v → t = u) ∧ (∀ u p v w, cV f T t (some p) v → cV f T u (some p) w → (tMem t).length = (tMem u).length → t = u) := by
  intro t
  induction t with
  | nest n t _ =>
    refine ⟨fun u v h h' => ?_, fun u p v w h => h.elim⟩
    obtain ⟨rfl, h1, h2, h3⟩ := h
    rcases cV_cases h' with ⟨k, rfl, k1, k2, k3⟩ | ⟨l, p, rfl, k3, k4⟩ | ⟨ms, p, rfl, k3, k4, _⟩
    · have : (hN n).toInt = (hN k).toInt := by rw [← h3, ← k3]
      rw [hN_int h1 h2, hN_int k1 k2] at this
      have e : n = k := by omega
      subst e
      rfl
    · exfalso
      have := hN_1 n
      rw [← h3, k3, an1_w (by have := k4.1; have := k4.2.2.2.1; omega)] at this
      exact absurd this (by decide)
    · exfalso
      have := hN_1 n
      rw [← h3, k3, an1_l (by have := k4.1; have := k4.2.1; omega)] at this
      exact absurd this (by decide)
  | tag c t _ =>
    refine ⟨fun u v h h' => ?_, fun u p v w h => h.elim⟩
    obtain ⟨p, h1, h2, h3⟩ := h
    have b1 := h3.1
    have b2 := h3.2.2.2.1
    rcases cV_cases h' with ⟨k, rfl, k1, k2, k3⟩ | ⟨l, q, rfl, k3, k4⟩ | ⟨ms, q, rfl, k3, k4, _⟩
    · exfalso
      have := hN_1 k
      rw [← k3, h1, an1_w (by omega)] at this
      exact absurd this (by decide)
    · have c1 := k4.1
      have c2 := k4.2.2.2.1
      have e : 4 * p + 3 = 4 * q + 3 := (nI_eq (by omega) (by omega)).mp (by rw [← h1, ← k3])
      have e2 : p = q := by omega
      subst e2
      have := cWd_inj h3 k4
      rw [← this, h2, tLet_tW]
      rfl
    · exfalso
      have c1 := k4.1
      have c2 := k4.2.1
      have e : 4 * p + 3 = 4 * q + 1 := (nI_eq (by omega) (by omega)).mp (by rw [← h1, ← k3])
      omega
  | nil =>
    refine ⟨fun u v h h' => ?_, fun u p v w h h' e => ?_⟩
    · obtain ⟨p, h1, h2⟩ := h
      have b1 := h2.1
      have b2 := h2.2.1
      rcases cV_cases h' with ⟨k, rfl, k1, k2, k3⟩ | ⟨l, q, rfl, k3, k4⟩ | ⟨ms, q, rfl, k3, k4, _⟩
      · exfalso
        have := hN_1 k
        rw [← k3, h1, an1_l (by omega)] at this
        exact absurd this (by decide)
      · exfalso
        have c1 := k4.1
        have c2 := k4.2.2.2.1
        have e : 4 * p + 1 = 4 * q + 3 := (nI_eq (by omega) (by omega)).mp (by rw [← h1, ← k3])
        omega
      · have c1 := k4.1
        have c2 := k4.2.1
        have e : 4 * p + 1 = 4 * q + 1 := (nI_eq (by omega) (by omega)).mp (by rw [← h1, ← k3])
        have e2 : p = q := by omega
        subst e2
        have e3 := h2.2.2.2.2
        rw [k4.2.2.2.2] at e3
        have c3 := k4.2.2.1
        have c4 := k4.2.2.2.1.1
        have e4 := (nI_eq (by omega) (by omega)).mp e3
        have e5 : ms.length = 0 := by omega
        rw [List.length_eq_zero_iff.mp e5]
        rfl
    · obtain ⟨l, rfl⟩ := cV_chain h'
      rw [tMem_tL] at e
      have e : 0 = l.length := e
      rw [List.length_eq_zero_iff.mp e.symm]
      rfl
  | append m t ihm iht =>
    refine ⟨fun u v h h' => ?_, fun u p v w h h' e => ?_⟩
    · rw [cV_an] at h
      obtain ⟨p, h1, h2, h3, h4⟩ := h
      have b1 := h2.1
      have b2 := h2.2.1
      rcases cV_cases h' with ⟨k, rfl, k1, k2, k3⟩ | ⟨l, q, rfl, k3, k4⟩ | ⟨ms, q, rfl, k3, k4, k5⟩
      · exfalso
        have := hN_1 k
        rw [← k3, h1, an1_l (by omega)] at this
        exact absurd this (by decide)
      · exfalso
        have c1 := k4.1
        have c2 := k4.2.2.2.1
        have e : 4 * p + 1 = 4 * q + 3 := (nI_eq (by omega) (by omega)).mp (by rw [← h1, ← k3])
        omega
      · have c1 := k4.1
        have c2 := k4.2.1
        have e : 4 * p + 1 = 4 * q + 1 := (nI_eq (by omega) (by omega)).mp (by rw [← h1, ← k3])
        have e2 : p = q := by omega
        subst e2
        have e3 := h2.2.2.2.2
        rw [k4.2.2.2.2] at e3
        have c3 := k4.2.2.1
        have c4 := k4.2.2.2.1.1
        have d3 := h2.2.2.1
        have d4 := h2.2.2.2.1.1
        have e4 := (nI_eq (by omega) (by omega)).mp e3
        have e5 : ms.length = (tMem t).length + 1 := by omega
        cases ms with
        | nil => simp at e5
        | cons m' ms =>
          simp only [List.length_cons] at e5
          have e6 : m = m' := ihm.1 _ _ h3 (k5 0 (by simp))
          have e7 : t = tL ms := by
            refine iht.2 _ _ _ 0 h4 ((cV_ch ms (p + 2) 0).mpr (fun k hk => ?_)) (by rw [tMem_tL]; omega)
            have := k5 (k + 1) (by simp; omega)
            rw [show p + 1 + (k + 1) = p + 2 + k by omega] at this
            exact this
          rw [e6, e7]
          rfl
    · obtain ⟨l, rfl⟩ := cV_chain h'
      rw [tMem_tL] at e
      have e : (tMem t).length + 1 = l.length := e
      cases l with
      | nil => simp at e
      | cons m' l =>
        simp only [List.length_cons] at e
        rw [cV_as] at h
        have h' : cV f T m' none (f p) ∧ cV f T (tL l) (some (p + 1)) 0 := h'
        rw [ihm.1 _ _ h.1 h'.1, iht.2 _ _ _ _ h.2 h'.2 (by rw [tMem_tL]; omega)]
        rfl
  | _ => exact ⟨fun u v h => h.elim, fun u p v w h => h.elim⟩
theorem cV_same {f : Nat → Int32} {T : Nat} {t u : Tr} {v : Int32} (hT : T ≤ 340000) (h : cV f T t none v) (h' : cV f T u none v) : t = u := (cV_fun hT t).1 u v h h'
theorem dec_t {p : Prop} (h : p) : dec p = true := by unfold dec; exact @decide_eq_true p (Classical.propDecidable p) h
theorem dec_f {p : Prop} (h : ¬ p) : dec p = false := by unfold dec; exact @decide_eq_false p (Classical.propDecidable p) h
/-- alike, as far as their own cells tell -/
theorem h_alike {n : Nat} {g : Nat → Nat} {i : Nat → Int32} {a : Nat → Nat → Int32} {top : Nat} (ht : top ≤ g 0) (hg : g 0 ≤ 340000) {t u : Tr} {x y : Int32} (hn : 1000 ≤ n) (h : cV (a 0) top t none x) (h' : cV (a 0) top u none y) : ∃ b, m_Heap_alike n g i a x y = some (b1 b) ∧ (b = false → t ≠ u) ∧ (b = true → (isL t = false → t = u) ∧ (isL t = true → isL u = true ∧ (tMem t).length = (tMem u).length)) := by
  have hT : top ≤ 340000 := by omega
  unfold m_Heap_alike
  rcases Classical.em (x = y) with e | e
  · subst e
    have := cV_same hT h h'
    subst this
    refine ⟨true, by rw [if_pos rfl]; rfl, (fun h => by cases h), fun _ => ⟨fun _ => rfl, fun hl => ⟨hl, rfl⟩⟩⟩
  · rw [if_neg e]
    obtain ⟨kw, kl, kn⟩ := cV_kinds hT h n
    obtain ⟨kw', kl', kn'⟩ := cV_kinds hT h' n
    rcases cV_cases h with ⟨k, rfl, k1, k2, k3⟩ | ⟨l, p, rfl, k3, k4⟩ | ⟨ms, p, rfl, k3, k4, k5⟩
    · rw [isW_tN] at kw
      rw [isL_tN] at kl
      refine ⟨false, ?_, fun _ he => ?_, fun h => by cases h⟩
      · simp (disch := omega) only [ob_s, ob0_s, ob1_s, i32_lit, ile_p, ile_n, ilt_p, ilt_n, ieq_p, ieq_n, ck_n, cl_n, sub_n, nI_add, sh_w, sh_l, an3_w, an3_l, an1_w, an1_l, hN_1, hN_3w, hN_3l, if_true, if_false, kw, b1_f, m_Heap_alike_b28, kl]
      · subst he
        obtain ⟨_, _, q⟩ := cV_tN.mp h'
        exact e (k3.trans q.symm)
    · rw [isW_tW] at kw
      rw [isL_tW] at kl
      cases hw : isW u with
      | false =>
        rw [hw] at kw'
        refine ⟨false, ?_, fun _ he => ?_, fun h => by cases h⟩
        · simp (disch := omega) only [ob_s, ob0_s, ob1_s, i32_lit, ile_p, ile_n, ilt_p, ilt_n, ieq_p, ieq_n, ck_n, cl_n, sub_n, nI_add, sh_w, sh_l, an3_w, an3_l, an1_w, an1_l, hN_1, hN_3w, hN_3l, if_true, if_false, kw, kw', b1_f, b1_t, m_Heap_alike_b28, kl]
        · rw [← he, isW_tW] at hw
          cases hw
      | true =>
        rw [hw] at kw'
        have eu := isW_eq h' hw
        have h'' := h'
        rw [eu] at h''
        have es := h_sameWord (n := n) (i := i) ht hg (by omega) h h''
        refine ⟨decide (l = tLet u), ?_, fun hf he => ?_, fun ht9 => ⟨fun _ => ?_, fun hl => ?_⟩⟩
        · simp (disch := omega) only [ob_s, ob0_s, ob1_s, i32_lit, ile_p, ile_n, ilt_p, ilt_n, ieq_p, ieq_n, ck_n, cl_n, sub_n, nI_add, sh_w, sh_l, an3_w, an3_l, an1_w, an1_l, hN_1, hN_3w, hN_3l, if_true, if_false, kw, kw', b1_t, es]
          cases decide (l = tLet u) <;> rfl
        · rw [← he, tLet_tW] at hf
          simp at hf
        · rw [of_decide_eq_true ht9, ← eu]
        · rw [isL_tW] at hl
          cases hl
    · rw [isW_tL] at kw
      rw [isL_tL] at kl
      cases hl : isL u with
      | false =>
        rw [hl] at kl'
        refine ⟨false, ?_, fun _ he => ?_, fun h => by cases h⟩
        · simp (disch := omega) only [ob_s, ob0_s, ob1_s, i32_lit, ile_p, ile_n, ilt_p, ilt_n, ieq_p, ieq_n, ck_n, cl_n, sub_n, nI_add, sh_w, sh_l, an3_w, an3_l, an1_w, an1_l, hN_1, hN_3w, hN_3l, if_true, if_false, kw, b1_f, b1_t, m_Heap_alike_b28, kl, kl']
        · rw [← he, isL_tL] at hl
          cases hl
      | true =>
        rw [hl] at kl'
        have c1 := h_count (n := n) (i := i) ht hg h
        have c2 := h_count (n := n) (i := i) ht hg h'
        have s1 := h_size (n := n) (i := i) ht hg (by omega) h
        have s2 := h_size (n := n) (i := i) ht hg (by omega) h'
        have b1' := cV_cnt h (isL_tL ms)
        have b2' := cV_cnt h' hl
        have b3 := tSz_lt h
        have b4 := tSz_lt h'
        rcases Classical.em ((tMem (tL ms)).length = (tMem u).length) with el | el
        · rcases Classical.em (tSz (tL ms) = tSz u) with es | es
          · refine ⟨true, ?_, (fun h => by cases h), fun _ => ⟨(fun h => by rw [isL_tL] at h; cases h), fun _ => ⟨rfl, el⟩⟩⟩
            simp (disch := omega) only [ob_s, ob0_s, ob1_s, i32_lit, ile_p, ile_n, ilt_p, ilt_n, ieq_p, ieq_n, ck_n, cl_n, sub_n, nI_add, sh_w, sh_l, an3_w, an3_l, an1_w, an1_l, hN_1, hN_3w, hN_3l, if_true, if_false, kw, b1_f, b1_t, m_Heap_alike_b28, kl, kl', c1, c2, s1, s2]
          · refine ⟨false, ?_, fun _ he => es (by rw [he]), fun h => by cases h⟩
            simp (disch := omega) only [ob_s, ob0_s, ob1_s, i32_lit, ile_p, ile_n, ilt_p, ilt_n, ieq_p, ieq_n, ck_n, cl_n, sub_n, nI_add, sh_w, sh_l, an3_w, an3_l, an1_w, an1_l, hN_1, hN_3w, hN_3l, if_true, if_false, kw, b1_f, b1_t, m_Heap_alike_b28, kl, kl', c1, c2, s1, s2]
        · refine ⟨false, ?_, fun _ he => el (by rw [he]), fun h => by cases h⟩
          simp (disch := omega) only [ob_s, ob0_s, ob1_s, i32_lit, ile_p, ile_n, ilt_p, ilt_n, ieq_p, ieq_n, ck_n, cl_n, sub_n, nI_add, sh_w, sh_l, an3_w, an3_l, an1_w, an1_l, hN_1, hN_3w, hN_3l, if_true, if_false, kw, b1_f, b1_t, m_Heap_alike_b28, kl, kl', c1, c2]
def eqA (a : Nat → Nat → Int32) (f2 f3 f4 : Nat → Int32) : Nat → Nat → Int32 := updA (updA (updA a 2 f2) 3 f3) 4 f4
theorem eqA_2 {a : Nat → Nat → Int32} {f2 f3 f4 : Nat → Int32} {k : Nat} {x : Int32} : sv (eqA a f2 f3 f4) 2 k x = eqA a (upd f2 k x) f3 f4 := by
  funext j
  unfold sv eqA updA
  by_cases h2 : j = 2
  · subst h2; rfl
  · by_cases h3 : j = 3
    · subst h3; rfl
    · by_cases h4 : j = 4
      · subst h4; rfl
      · simp only [if_neg h2, if_neg h3, if_neg h4]
theorem eqA_3 {a : Nat → Nat → Int32} {f2 f3 f4 : Nat → Int32} {k : Nat} {x : Int32} : sv (eqA a f2 f3 f4) 3 k x = eqA a f2 (upd f3 k x) f4 := by
  funext j
  unfold sv eqA updA
  by_cases h3 : j = 3
  · subst h3; rfl
  · by_cases h4 : j = 4
    · subst h4; rfl
    · simp only [if_neg h3, if_neg h4]
theorem eqA_4 {a : Nat → Nat → Int32} {f2 f3 f4 : Nat → Int32} {k : Nat} {x : Int32} : sv (eqA a f2 f3 f4) 4 k x = eqA a f2 f3 (upd f4 k x) := by
  funext j
  unfold sv eqA updA
  by_cases h4 : j = 4
  · subst h4; rfl
  · simp only [if_neg h4]
theorem eqA_self (a : Nat → Nat → Int32) : eqA a (a 2) (a 3) (a 4) = a := by
  unfold eqA
  rw [updA_self, updA_self, updA_self]
abbrev EqF : Type := List Tr × List Tr × Nat
def eqR (f : Nat → Int32) (T : Nat) (f2 f3 f4 : Nat → Int32) : List EqF → Prop
  | [] => True
  | (l, r, k) :: st => cV f T (tL l) none (f2 st.length) ∧ cV f T (tL r) none (f3 st.length) ∧ l.length = r.length ∧ f4 st.length = nI k ∧ k ≤ l.length + 1 ∧ tDp (tL l) + st.length ≤ 620 ∧ eqR f T f2 f3 f4 st
def eqO : List EqF → Prop
  | [] => True
  | (l, r, k) :: st => (∀ j, k ≤ j → l[j]? = r[j]?) ∧ eqO st
def eqM : List EqF → Nat
  | [] => 0
  | (l, _, k) :: st => 1 + 2 * ((l.drop k).map tSz).sum + eqM st
theorem eqR_keep {f : Nat → Int32} {T : Nat} {f2 f3 f4 f2' f3' f4' : Nat → Int32} : ∀ (st : List EqF), (∀ j, j < st.length → f2' j = f2 j ∧ f3' j = f3 j ∧ f4' j = f4 j) → eqR f T f2 f3 f4 st → eqR f T f2' f3' f4' st := by
  intro st
  induction st with
  | nil => intro _ _; trivial
  | cons q st ih =>
    obtain ⟨l, r, k⟩ := q
    intro hj h
    obtain ⟨h1, h2, h3, h4, h5, h6, h7⟩ := h
    obtain ⟨e1, e2, e3⟩ := hj st.length (by simp)
    exact ⟨by rw [e1]; exact h1, by rw [e2]; exact h2, h3, by rw [e3]; exact h4, h5, h6, ih (fun j hj' => hj j (by simp; omega)) h7⟩
theorem tDp_mem {ms : List Tr} {m : Tr} (h : m ∈ ms) : tDp m + 1 ≤ tDp (tL ms) := by
  induction ms with
  | nil => cases h
  | cons x ms ih =>
    show tDp m + 1 ≤ max (tDp x + 1) (tDp (tL ms))
    rcases List.mem_cons.mp h with rfl | h
    · omega
    · have := ih h; omega
theorem list_ext {l r : List Tr} (h : l.length = r.length) : l = r ↔ ∀ j, 0 ≤ j → l[j]? = r[j]? := by
  constructor
  · intro e j _; rw [e]
  · intro hj; exact List.ext_getElem? (fun j => hj j (Nat.zero_le _))
theorem eq_step {n q : Nat} {g : Nat → Nat} {i : Nat → Int32} {a : Nat → Nat → Int32} {d c k : Nat} {f2 f3 f4 : Nat → Int32} {x y : Int32} (hc : c < 1000000) (hd : d < 700) (hk : k < 1000000) (h4 : f4 d = nI k) (p1 : m_Heap_member n g i (eqA a f2 f3 (upd f4 d (nI (k + 1)))) (f2 d) (nI k) = some x) (p3 : m_Heap_member n g i (eqA a f2 f3 (upd f4 d (nI (k + 1)))) (f3 d) (nI k) = some y) : m_Heap_equal_b53 n g (q + 1) i (eqA a f2 f3 f4) (nI (d + 1)) (nI c) = (if x = ((-2147483648 : Int32)) then ob1 (nI (d + 1) + (-1) : Int32) (fun x_29 => m_Heap_equal_b192 n g (m_Heap_equal_b53 n g q) i (eqA a f2 f3 (upd f4 d (nI (k + 1)))) x_29 (nI c)) else ob0 (m_Heap_alike n g i (eqA a f2 f3 (upd f4 d (nI (k + 1)))) x y) (fun r_15 => if r_15 = ((0 : Int32)) then some (i, eqA a f2 f3 (upd f4 d (nI (k + 1))), 0) else ob0 (m_Heap_isList n x) (fun r_18 => if r_18 = ((0 : Int32)) then m_Heap_equal_b192 n g (m_Heap_equal_b53 n g q) i (eqA a f2 f3 (upd f4 d (nI (k + 1)))) (nI (d + 1)) (nI c) else if x = y then m_Heap_equal_b192 n g (m_Heap_equal_b53 n g q) i (eqA a f2 f3 (upd f4 d (nI (k + 1)))) (nI (d + 1)) (nI c) else if ((700 : Int32)) ≤ nI (d + 1) then m_Heap_equal_b192 n g (m_Heap_equal_b53 n g q) i (eqA a f2 f3 (upd f4 d (nI (k + 1)))) (nI (d + 1)) (nI c) else ck (nI (d + 1)) 700 (ob1 (sv (eqA a f2 f3 (upd f4 d (nI (k + 1)))) 2 (nI (d + 1)).toNatClampNeg x : Nat → Nat → Int32) (fun a_23 => ck (nI (d + 1)) 700 (ob1 (sv a_23 3 (nI (d + 1)).toNatClampNeg y : Nat → Nat → Int32) (fun a_25 => ck (nI (d + 1)) 700 (ob1 (sv a_25 4 (nI (d + 1)).toNatClampNeg 0 : Nat → Nat → Int32) (fun a_27 => ob1 (nI (d + 1) + 1 : Int32) (fun x_28 => m_Heap_equal_b192 n g (m_Heap_equal_b53 n g q) i a_27 x_28 (nI c))))))))))) := by
  rw [m_Heap_equal_b53, if_neg (show ¬ (1000000 : Int32) ≤ nI c from nI_ge hc (by decide)), if_neg (show ¬ nI (d + 1) ≤ (0 : Int32) from nI_nle (by omega) (by omega)), show nI (d + 1) - 1 = nI d from nI_pred d, ck_n (by omega), ob1_s, cl_n (by omega), ck_n (by omega), ob1_s, show eqA a f2 f3 f4 4 = f4 from rfl, h4, show nI k + 1 = nI (k + 1) from nI_1 k, eqA_4, ck_n (by omega), show eqA a f2 f3 (upd f4 d (nI (k + 1))) 2 = f2 from rfl, p1, ob0_s, ck_n (by omega), show eqA a f2 f3 (upd f4 d (nI (k + 1))) 3 = f3 from rfl, p3, ob0_s]
theorem h_equal_b {n : Nat} {g : Nat → Nat} {i : Nat → Int32} {a : Nat → Nat → Int32} {top : Nat} (ht : top ≤ g 0) (hg : g 0 ≤ 340000) (hn : 1000 ≤ n) : ∀ (m : Nat) (q c : Nat) (st : List EqF) (f2 f3 f4 : Nat → Int32), eqM st ≤ m → m < q → c + eqM st ≤ 600000 → eqR (a 0) top f2 f3 f4 st → ∃ g2 g3 g4, m_Heap_equal_b53 n g q i (eqA a f2 f3 f4) (nI st.length) (nI c) = some (i, eqA a g2 g3 g4, b1 (dec (eqO st))) := by
  have hT : top ≤ 340000 := by omega
  intro m
  induction m with
  | zero =>
    intro q c st f2 f3 f4 h1 h2 h3 hr
    obtain ⟨q, rfl⟩ : ∃ q', q = q' + 1 := ⟨q - 1, by omega⟩
    cases st with
    | nil =>
      refine ⟨f2, f3, f4, ?_⟩
      rw [dec_t (show eqO [] from trivial), m_Heap_equal_b53]
      simp (disch := omega) only [ob_s, ob0_s, ob1_s, i32_lit, ile_p, ile_n, ilt_p, ilt_n, ieq_p, ieq_n, ck_n, cl_n, sub_n, nI_add, sh_w, sh_l, an3_w, an3_l, an1_w, an1_l, hN_1, hN_3w, hN_3l, if_true, if_false, List.length_nil, b1_t]
    | cons x st =>
      obtain ⟨l, r, k⟩ := x
      rw [eqM] at h1
      omega
  | succ m ih =>
    intro q c st f2 f3 f4 h1 h2 h3 hr
    obtain ⟨q, rfl⟩ : ∃ q', q = q' + 1 := ⟨q - 1, by omega⟩
    cases st with
    | nil =>
      refine ⟨f2, f3, f4, ?_⟩
      rw [dec_t (show eqO [] from trivial), m_Heap_equal_b53]
      simp (disch := omega) only [ob_s, ob0_s, ob1_s, i32_lit, ile_p, ile_n, ilt_p, ilt_n, ieq_p, ieq_n, ck_n, cl_n, sub_n, nI_add, sh_w, sh_l, an3_w, an3_l, an1_w, an1_l, hN_1, hN_3w, hN_3l, if_true, if_false, List.length_nil, b1_t]
    | cons x st =>
      obtain ⟨l, r, k⟩ := x
      obtain ⟨r1, r2, r3, r4, r5, r6, r7⟩ := hr
      rw [eqM] at h1 h3
      have hd1 : 1 ≤ tDp (tL l) := by
        cases l with
        | nil => exact Nat.le_refl _
        | cons z l => show 1 ≤ max _ _; omega
      have hcl := cV_cnt r1 (isL_tL l)
      rw [tMem_tL] at hcl
      simp only [List.length_cons]
      have e4 : eqA a f2 f3 f4 4 = f4 := rfl
      have e20 : ∀ z, eqA a f2 f3 z 2 = f2 := fun z => rfl
      have e30 : ∀ z, eqA a f2 f3 z 3 = f3 := fun z => rfl
      rcases Nat.lt_or_ge k l.length with hk | hk
      · obtain ⟨x, p1, p2⟩ := h_member (n := n) (g := g) (i := i) (a := eqA a f2 f3 (upd f4 st.length (nI (k + 1)))) ht hg r1 hk
        obtain ⟨y, p3, p4⟩ := h_member (n := n) (g := g) (i := i) (a := eqA a f2 f3 (upd f4 st.length (nI (k + 1)))) ht hg r2 (k := k) (by omega)
        have no := cV_no hT p2
        obtain ⟨b, w1, w2, w3⟩ := h_alike (n := n) (g := g) (i := i) (a := eqA a f2 f3 (upd f4 st.length (nI (k + 1)))) ht hg hn p2 p4
        obtain ⟨_, kl, _⟩ := cV_kinds hT p2 n
        have hdrop : ((l.drop k).map tSz).sum = tSz l[k] + ((l.drop (k + 1)).map tSz).sum := by
          rw [List.drop_eq_getElem_cons hk, List.map_cons, List.sum_cons]
        have hs1 := cV_sz p2
        have hcf : eqR (a 0) top f2 f3 (upd f4 st.length (nI (k + 1))) ((l, r, k + 1) :: st) := ⟨r1, r2, r3, upd_at, by omega, r6, eqR_keep st (fun j hj => ⟨rfl, rfl, upd_ne (by omega)⟩) r7⟩
        have ob : eqO ((l, r, k) :: st) ↔ l[k] = r[k] ∧ eqO ((l, r, k + 1) :: st) := by
          constructor
          · rintro ⟨o1, o2⟩
            have := o1 k (Nat.le_refl _)
            rw [List.getElem?_eq_getElem hk, List.getElem?_eq_getElem (by omega)] at this
            exact ⟨Option.some.inj this, fun j hj => o1 j (by omega), o2⟩
          · rintro ⟨o0, o1, o2⟩
            refine ⟨fun j hj => ?_, o2⟩
            rcases Nat.eq_or_lt_of_le hj with e | e
            · subst e
              rw [List.getElem?_eq_getElem hk, List.getElem?_eq_getElem (by omega), o0]
            · exact o1 j (by omega)
        cases b with
        | false =>
          have ne := w2 rfl
          refine ⟨f2, f3, upd f4 st.length (nI (k + 1)), ?_⟩
          rw [dec_f (fun o => ne (ob.mp o).1)]
          rw [eq_step (by omega) (by omega) (by omega) r4 p1 p3, if_neg (show ¬ x = (-2147483648 : Int32) from no), w1, ob0_s, b1_f, if_pos (show nI 0 = (0 : Int32) from rfl)]
          rfl
        | true =>
          obtain ⟨w4, w5⟩ := w3 rfl
          have skip : l[k] = r[k] → ∃ g2 g3 g4, m_Heap_equal_b53 n g q i (eqA a f2 f3 (upd f4 st.length (nI (k + 1)))) (nI (st.length + 1)) (nI (c + 1)) = some (i, eqA a g2 g3 g4, b1 (dec (eqO ((l, r, k) :: st)))) := by
            intro e
            obtain ⟨g2, g3, g4, z⟩ := ih q (c + 1) ((l, r, k + 1) :: st) f2 f3 (upd f4 st.length (nI (k + 1))) (by rw [eqM]; omega) (by omega) (by rw [eqM]; omega) hcf
            refine ⟨g2, g3, g4, ?_⟩
            rw [show eqO ((l, r, k) :: st) = eqO ((l, r, k + 1) :: st) from propext (ob.trans ⟨fun h => h.2, fun h => ⟨e, h⟩⟩)]
            exact z
          cases hl : isL l[k] with
          | false =>
            obtain ⟨g2, g3, g4, z⟩ := skip (w4 hl)
            refine ⟨g2, g3, g4, ?_⟩
            rw [← z]
            rw [eq_step (by omega) (by omega) (by omega) r4 p1 p3, if_neg (show ¬ x = (-2147483648 : Int32) from no), w1, ob0_s, b1_t, if_neg (by decide), kl, ob0_s, hl, b1_f, if_pos (show nI 0 = (0 : Int32) from rfl)]
            unfold m_Heap_equal_b192
            rw [ob1_s, show nI c + 1 = nI (c + 1) from nI_1 c]
          | true =>
            obtain ⟨w6, w7⟩ := w5 hl
            rcases Classical.em (x = y) with exy | exy
            · subst exy
              obtain ⟨g2, g3, g4, z⟩ := skip (cV_same hT p2 p4)
              refine ⟨g2, g3, g4, ?_⟩
              rw [← z]
              rw [eq_step (by omega) (by omega) (by omega) r4 p1 p3, if_neg (show ¬ x = (-2147483648 : Int32) from no), w1, ob0_s, b1_t, if_neg (by decide), kl, ob0_s, hl, b1_t, if_neg (by decide), if_pos rfl]
              unfold m_Heap_equal_b192
              rw [ob1_s, show nI c + 1 = nI (c + 1) from nI_1 c]
            · have t1 := isL_eq p2 hl
              have t2 := isL_eq p4 w6
              have p2' := p2
              rw [t1] at p2'
              have p4' := p4
              rw [t2] at p4'
              have hdm := tDp_mem (List.getElem_mem hk)
              have hnew : eqR (a 0) top (upd f2 (st.length + 1) x) (upd f3 (st.length + 1) y) (upd (upd f4 st.length (nI (k + 1))) (st.length + 1) (nI 0)) ((tMem l[k], tMem r[k], 0) :: (l, r, k + 1) :: st) := by
                refine ⟨?_, ?_, w7, upd_at, by omega, ?_, eqR_keep _ (fun j hj => ?_) hcf⟩
                · rw [show ((l, r, k + 1) :: st).length = st.length + 1 from rfl, upd_at]; exact p2'
                · rw [show ((l, r, k + 1) :: st).length = st.length + 1 from rfl, upd_at]; exact p4'
                · rw [← t1]
                  show tDp l[k] + (st.length + 1) ≤ 620
                  omega
                · have hj : j < st.length + 1 := hj
                  exact ⟨upd_ne (by omega), upd_ne (by omega), upd_ne (by omega)⟩
              have hsz : tSz l[k] = 1 + ((tMem l[k]).map tSz).sum := by
                conv => lhs; rw [t1]
                exact tSz_tL _
              have hM : eqM ((tMem l[k], tMem r[k], 0) :: (l, r, k + 1) :: st) = 1 + 2 * ((tMem l[k]).map tSz).sum + (1 + 2 * ((l.drop (k + 1)).map tSz).sum + eqM st) := rfl
              obtain ⟨g2, g3, g4, z⟩ := ih q (c + 1) ((tMem l[k], tMem r[k], 0) :: (l, r, k + 1) :: st) _ _ _ (by omega) (by omega) (by omega) hnew
              refine ⟨g2, g3, g4, ?_⟩
              rw [show eqO ((l, r, k) :: st) = eqO ((tMem l[k], tMem r[k], 0) :: (l, r, k + 1) :: st) from propext (ob.trans ⟨fun h => ⟨(list_ext w7).mp (by rw [h.1]), h.2⟩, fun h => ⟨by rw [t1, t2, (list_ext w7).mpr h.1], h.2⟩⟩), ← z]
              rw [eq_step (by omega) (by omega) (by omega) r4 p1 p3, if_neg (show ¬ x = (-2147483648 : Int32) from no), w1, ob0_s, b1_t, if_neg (by decide), kl, ob0_s, hl, b1_t, if_neg (by decide), if_neg exy, if_neg (show ¬ (700 : Int32) ≤ nI (st.length + 1) from nI_ge (a := st.length + 1) (b := 700) (by omega) (by decide)), ck_n (by omega), ob1_s, cl_n (by omega), eqA_2, ck_n (by omega), ob1_s, eqA_3, ck_n (by omega), ob1_s, show (0 : Int32) = nI 0 from rfl, eqA_4, ob1_s, show nI (st.length + 1) + 1 = nI (st.length + 1 + 1) from nI_1 _]
              unfold m_Heap_equal_b192
              rw [ob1_s, show nI c + 1 = nI (c + 1) from nI_1 c]
              rfl
      · have p1 := h_member_no (n := n) (g := g) (i := i) (a := eqA a f2 f3 (upd f4 st.length (nI (k + 1)))) ht hg r1 hk (by omega)
        have p3 := h_member_no (n := n) (g := g) (i := i) (a := eqA a f2 f3 (upd f4 st.length (nI (k + 1)))) ht hg r2 (k := k) (by omega) (by omega)
        obtain ⟨g2, g3, g4, z⟩ := ih q (c + 1) st f2 f3 (upd f4 st.length (nI (k + 1))) (by omega) (by omega) (by omega) (eqR_keep st (fun j hj => ⟨rfl, rfl, upd_ne (by omega)⟩) r7)
        refine ⟨g2, g3, g4, ?_⟩
        rw [show eqO ((l, r, k) :: st) = eqO st from propext ⟨fun h => h.2, fun h => ⟨fun j hj => by rw [List.getElem?_eq_none (by omega), List.getElem?_eq_none (by omega)], h⟩⟩, ← z]
        have hneg : nI (st.length + 1) + -nI 1 = nI st.length := by
          rw [← Int32.sub_eq_add_neg, sub_n (by omega), show st.length + 1 - 1 = st.length by omega]
        rw [eq_step (by omega) (by omega) (by omega) r4 p1 p3, if_pos (show -nI 2147483648 = (-2147483648 : Int32) from rfl), ob1_s, show nI (st.length + 1) + -1 = nI st.length from hneg]
        unfold m_Heap_equal_b192
        rw [ob1_s, show nI c + 1 = nI (c + 1) from nI_1 c]
theorem h_equal {n : Nat} {g : Nat → Nat} {i : Nat → Int32} {a : Nat → Nat → Int32} {top : Nat} (ht : top ≤ g 0) (hg : g 0 ≤ 340000) {t u : Tr} {x y : Int32} (hn : 300000 ≤ n) (h : cV (a 0) top t none x) (h' : cV (a 0) top u none y) : ∃ g2 g3 g4, m_Heap_equal n g i a x y = some (i, eqA a g2 g3 g4, b1 (dec (t = u))) := by
  have hT : top ≤ 340000 := by omega
  obtain ⟨b, w1, w2, w3⟩ := h_alike (n := n) (i := i) ht hg (by omega) h h'
  obtain ⟨_, kl, _⟩ := cV_kinds hT h n
  unfold m_Heap_equal
  cases b with
  | false =>
    refine ⟨a 2, a 3, a 4, ?_⟩
    rw [dec_f (w2 rfl), eqA_self]
    simp (disch := omega) only [ob_s, ob0_s, ob1_s, i32_lit, ile_p, ile_n, ilt_p, ilt_n, ieq_p, ieq_n, ck_n, cl_n, sub_n, nI_add, sh_w, sh_l, an3_w, an3_l, an1_w, an1_l, hN_1, hN_3w, hN_3l, if_true, if_false, w1, b1_f]
  | true =>
    obtain ⟨w4, w5⟩ := w3 rfl
    have e0 : sv (sv (sv a 2 0 x) 3 0 y) 4 0 (nI 0) = eqA a (upd (a 2) 0 x) (upd (a 3) 0 y) (upd (a 4) 0 (nI 0)) := by
      conv => lhs; rw [← eqA_self a]
      rw [eqA_2, eqA_3, eqA_4]
    obtain ⟨z2, z3, z4, zz⟩ := h_equal_b (n := n) (g := g) (i := i) (a := a) ht hg (by omega) 0 n 0 [] (upd (a 2) 0 x) (upd (a 3) 0 y) (upd (a 4) 0 (nI 0)) (by decide) (by omega) (by decide) trivial
    rw [dec_t (show eqO [] from trivial), b1_t, List.length_nil] at zz
    have triv : t = u → ∃ g2 g3 g4, m_Heap_equal_b53 n g n i (eqA a (upd (a 2) 0 x) (upd (a 3) 0 y) (upd (a 4) 0 (nI 0))) (nI 0) (nI 0) = some (i, eqA a g2 g3 g4, b1 (dec (t = u))) := by
      intro e
      rw [dec_t e, b1_t]
      exact ⟨z2, z3, z4, zz⟩
    rcases Classical.em (x = y) with exy | exy
    · subst exy
      obtain ⟨g2, g3, g4, z⟩ := triv (cV_same hT h h')
      refine ⟨g2, g3, g4, ?_⟩
      rw [← z]
      simp (disch := omega) only [ob_s, ob0_s, ob1_s, i32_lit, ile_p, ile_n, ilt_p, ilt_n, ieq_p, ieq_n, ck_n, cl_n, sub_n, nI_add, sh_w, sh_l, an3_w, an3_l, an1_w, an1_l, hN_1, hN_3w, hN_3l, if_true, if_false, w1, b1_t, m_Heap_equal_b44, m_Heap_equal_b49, e0]
    · cases hl : isL t with
      | false =>
        obtain ⟨g2, g3, g4, z⟩ := triv (w4 hl)
        refine ⟨g2, g3, g4, ?_⟩
        rw [← z]
        simp (disch := omega) only [ob_s, ob0_s, ob1_s, i32_lit, ile_p, ile_n, ilt_p, ilt_n, ieq_p, ieq_n, ck_n, cl_n, sub_n, nI_add, sh_w, sh_l, an3_w, an3_l, an1_w, an1_l, hN_1, hN_3w, hN_3l, if_true, if_false, w1, b1_t, exy, kl, hl, b1_f, m_Heap_equal_b44, m_Heap_equal_b49, e0]
      | true =>
        obtain ⟨w6, w7⟩ := w5 hl
        have t1 := isL_eq h hl
        have t2 := isL_eq h' w6
        have hh := h
        rw [t1] at hh
        have hh' := h'
        rw [t2] at hh'
        have hdp : tDp t ≤ 620 := by
          obtain ⟨p, _, q, _⟩ := cV_tL.mp hh
          rw [← t1] at q
          exact q.2.2.2.1.2.1
        have hst := tSz_lt h
        have hsz : tSz t = 1 + ((tMem t).map tSz).sum := by
          conv => lhs; rw [t1]
          exact tSz_tL _
        have hM : eqM [(tMem t, tMem u, 0)] = 1 + 2 * ((tMem t).map tSz).sum + 0 := rfl
        obtain ⟨g2, g3, g4, z⟩ := h_equal_b (n := n) (g := g) (i := i) (a := a) ht hg (by omega) (eqM [(tMem t, tMem u, 0)]) n 0 [(tMem t, tMem u, 0)] (upd (a 2) 0 x) (upd (a 3) 0 y) (upd (a 4) 0 (nI 0)) (Nat.le_refl _) (by omega) (by omega) ⟨by rw [List.length_nil, upd_at]; exact hh, by rw [List.length_nil, upd_at]; exact hh', w7, by rw [List.length_nil, upd_at], Nat.zero_le _, by rw [← t1]; exact hdp, trivial⟩
        refine ⟨g2, g3, g4, ?_⟩
        have ee : (t = u) = eqO [(tMem t, tMem u, 0)] := propext ⟨fun e => ⟨(list_ext w7).mp (by rw [e]), trivial⟩, fun o => by rw [t1, t2, (list_ext w7).mpr o.1]⟩
        rw [show dec (t = u) = dec (eqO [(tMem t, tMem u, 0)]) from by rw [ee], ← z]
        simp (disch := omega) only [ob_s, ob0_s, ob1_s, i32_lit, ile_p, ile_n, ilt_p, ilt_n, ieq_p, ieq_n, ck_n, cl_n, sub_n, nI_add, sh_w, sh_l, an3_w, an3_l, an1_w, an1_l, hN_1, hN_3w, hN_3l, if_true, if_false, w1, b1_t, exy, kl, hl, m_Heap_equal_b49, e0, List.length_cons, List.length_nil]
theorem CI_eq {g : Nat → Nat} {i : Nat → Int32} {a : Nat → Nat → Int32} {T : Nat} {G : GS} {N : LN} {F : List Fr} {L : List Lv} {g2 g3 g4 : Nat → Int32} (h : CI g i a T G N F L) : CI g i (eqA a g2 g3 g4) T G N F L := by
  obtain ⟨b1, b2, b3, b4, b5⟩ := h
  exact ⟨b1, b2, b3, b4, b5⟩
theorem eqA_eqA {a : Nat → Nat → Int32} {f2 f3 f4 g2 g3 g4 : Nat → Int32} : eqA (eqA a f2 f3 f4) g2 g3 g4 = eqA a g2 g3 g4 := by
  funext j
  unfold eqA updA
  by_cases h2 : j = 2
  · subst h2; rfl
  · by_cases h3 : j = 3
    · subst h3; rfl
    · by_cases h4 : j = 4
      · subst h4; rfl
      · simp only [if_neg h2, if_neg h3, if_neg h4]
theorem h_isMember_b {n : Nat} {g : Nat → Nat} {i : Nat → Int32} {a : Nat → Nat → Int32} {top : Nat} (ht : top ≤ g 0) (hg : g 0 ≤ 340000) {t : Tr} {ms : List Tr} {x y : Int32} (hn : 300000 ≤ n) (h : cV (a 0) top t none x) (h' : cV (a 0) top (tL ms) none y) (hc : ms.length ≤ 600) : ∀ (m k q : Nat) (f2 f3 f4 : Nat → Int32), ms.length = k + m → m < q → ∃ g2 g3 g4, m_Deeds_isMember_b12 n g q i (eqA a f2 f3 f4) x y (nI ms.length) (nI k) = some (i, eqA a g2 g3 g4, b1 (dec (t ∈ ms.drop k))) := by
  intro m
  induction m with
  | zero =>
    intro k q f2 f3 f4 e hq
    obtain ⟨q, rfl⟩ : ∃ q', q = q' + 1 := ⟨q - 1, by omega⟩
    refine ⟨f2, f3, f4, ?_⟩
    rw [m_Deeds_isMember_b12, List.drop_eq_nil_of_le (by omega), dec_f List.not_mem_nil]
    simp (disch := omega) only [ob_s, ob0_s, ob1_s, i32_lit, ile_p, ile_n, ilt_p, ilt_n, ieq_p, ieq_n, ck_n, cl_n, sub_n, nI_add, sh_w, sh_l, an3_w, an3_l, an1_w, an1_l, hN_1, hN_3w, hN_3l, if_true, if_false, b1_f]
  | succ m ih =>
    intro k q f2 f3 f4 e hq
    obtain ⟨q, rfl⟩ : ∃ q', q = q' + 1 := ⟨q - 1, by omega⟩
    have hk : k < ms.length := by omega
    obtain ⟨z, p1, p2⟩ := h_member (n := n) (g := g) (i := i) (a := eqA a f2 f3 f4) ht hg h' hk
    obtain ⟨g2, g3, g4, w⟩ := h_equal (n := n) (g := g) (i := i) (a := eqA a f2 f3 f4) ht hg hn h p2
    rw [eqA_eqA] at w
    rw [m_Deeds_isMember_b12, List.drop_eq_getElem_cons hk]
    rcases Classical.em (t = ms[k]) with he | he
    · refine ⟨g2, g3, g4, ?_⟩
      rw [dec_t he, b1_t] at w
      rw [dec_t (by rw [he]; exact List.mem_cons_self)]
      simp (disch := omega) only [ob_s, ob0_s, ob1_s, i32_lit, ile_p, ile_n, ilt_p, ilt_n, ieq_p, ieq_n, ck_n, cl_n, sub_n, nI_add, sh_w, sh_l, an3_w, an3_l, an1_w, an1_l, hN_1, hN_3w, hN_3l, if_true, if_false, p1, w, b1_t]
    · rw [dec_f he, b1_f] at w
      obtain ⟨h2, h3, h4, z9⟩ := ih (k + 1) q g2 g3 g4 (by omega) (by omega)
      refine ⟨h2, h3, h4, ?_⟩
      rw [show (t ∈ ms[k] :: ms.drop (k + 1)) = (t ∈ ms.drop (k + 1)) from propext ⟨fun h => (List.mem_cons.mp h).resolve_left he, fun h => List.mem_cons_of_mem _ h⟩, ← z9]
      simp (disch := omega) only [ob_s, ob0_s, ob1_s, i32_lit, ile_p, ile_n, ilt_p, ilt_n, ieq_p, ieq_n, ck_n, cl_n, sub_n, nI_add, sh_w, sh_l, an3_w, an3_l, an1_w, an1_l, hN_1, hN_3w, hN_3l, if_true, if_false, p1, w]
theorem h_isMember {n : Nat} {g : Nat → Nat} {i : Nat → Int32} {a : Nat → Nat → Int32} {top : Nat} (ht : top ≤ g 0) (hg : g 0 ≤ 340000) {t : Tr} {ms : List Tr} {x y : Int32} (hn : 300000 ≤ n) (h : cV (a 0) top t none x) (h' : cV (a 0) top (tL ms) none y) : ∃ g2 g3 g4, m_Deeds_isMember n g i a x y = some (i, eqA a g2 g3 g4, b1 (dec (t ∈ ms))) := by
  have hc := cV_cnt h' (isL_tL ms)
  rw [tMem_tL] at hc
  have hcnt := h_count (n := n) (i := i) ht hg h'
  rw [tMem_tL] at hcnt
  obtain ⟨g2, g3, g4, z⟩ := h_isMember_b (n := n) (g := g) (i := i) (a := a) ht hg hn h h' hc ms.length 0 n (a 2) (a 3) (a 4) (by omega) (by omega)
  rw [eqA_self] at z
  refine ⟨g2, g3, g4, ?_⟩
  unfold m_Deeds_isMember
  rw [hcnt, ob0_s, i32_lit, z]
  rfl

