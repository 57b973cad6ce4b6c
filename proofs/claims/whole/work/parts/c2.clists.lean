/-! lists as they are shown -/
abbrev ShF : Type := List Tr × Nat
def shR (f : Nat → Int32) (T : Nat) (f2 f3 : Nat → Int32) : List ShF → Prop
  | [] => True
  | (l, k) :: st => cV f T (tL l) none (f2 st.length) ∧ f3 st.length = nI k ∧ k ≤ l.length + 1 ∧ tDp (tL l) + st.length ≤ 620 ∧ shR f T f2 f3 st
def shO (bare : Bool) : List ShF → List Nat
  | [] => []
  | (l, k) :: st => aSh (tL (l.drop k)) (if k = 0 then 1 else 2) ++ ((if st = [] ∧ bare = true then [] else [93]) ++ shO bare st)
def shM : List ShF → Nat
  | [] => 0
  | (l, k) :: st => 1 + 2 * ((l.drop k).map tSz).sum + shM st
theorem shR_keep {f : Nat → Int32} {T : Nat} {f2 f3 f2' f3' : Nat → Int32} : ∀ (st : List ShF), (∀ j, j < st.length → f2' j = f2 j ∧ f3' j = f3 j) → shR f T f2 f3 st → shR f T f2' f3' st := by
  intro st
  induction st with
  | nil => intro _ _; trivial
  | cons q st ih =>
    obtain ⟨l, k⟩ := q
    intro hj h
    obtain ⟨h1, h4, h5, h6, h7⟩ := h
    obtain ⟨e1, e3⟩ := hj st.length (by simp)
    exact ⟨by rw [e1]; exact h1, by rw [e3]; exact h4, h5, h6, ih (fun j hj' => hj j (by simp; omega)) h7⟩
theorem aSh_l0 (ms : List Tr) : aSh (tL ms) 0 = 91 :: (aSh (tL ms) 1 ++ [93]) := by
  cases ms with
  | nil => rfl
  | cons m ms =>
    show 91 :: (aSh m 0 ++ (aSh (tL ms) 2 ++ [93])) = 91 :: ((aSh m 0 ++ aSh (tL ms) 2) ++ [93])
    rw [List.append_assoc]
theorem sh_step {n q : Nat} {g : Nat → Nat} {i : Nat → Int32} {a : Nat → Nat → Int32} {d c k : Nat} {bare : Int32} {x : Int32} (hc : c < 1000000) (hd : d < 700) (hk : k < 1000000) (h4 : a 30 d = nI k) (p1 : m_Heap_member n g i (sv a 30 d (nI (k + 1))) (a 29 d) (nI k) = some x) : m_Output_addShown_b42 n g (q + 1) i a bare (nI (d + 1)) (nI c) = (if x = ((-2147483648 : Int32)) then m_Output_addShown_b112 n g (m_Output_addShown_b42 n g q) i (sv a 30 d (nI (k + 1))) bare (nI (d + 1)) (nI c) x else if nI k ≤ ((0 : Int32)) then m_Output_addShown_b112 n g (m_Output_addShown_b42 n g q) i (sv a 30 d (nI (k + 1))) bare (nI (d + 1)) (nI c) x else ob (m_Output_add n g i (sv a 30 d (nI (k + 1))) (32 : Int32)) (fun i_13 a_14 r_15 => m_Output_addShown_b112 n g (m_Output_addShown_b42 n g q) i_13 a_14 bare (nI (d + 1)) (nI c) x)) := by
  rw [m_Output_addShown_b42, if_neg (show ¬ (1000000 : Int32) ≤ nI c from nI_ge hc (by decide)), if_neg (show ¬ nI (d + 1) ≤ (0 : Int32) from nI_nle (by omega) (by omega)), show nI (d + 1) - 1 = nI d from nI_pred d, ck_n (by omega), ob1_s, cl_n (by omega), ck_n (by omega), ob1_s, h4, show nI k + 1 = nI (k + 1) from nI_1 k, ck_n (by omega), show sv a 30 d (nI (k + 1)) 29 = a 29 from rfl, p1, ob0_s]
theorem h_shown_b {n : Nat} {g : Nat → Nat} {T : Nat} {bare : Bool} (hn : 1000 ≤ n) (ht : T ≤ g 0) (hg : g 0 ≤ 340000) : ∀ (m q c : Nat) (st : List ShF) (i : Nat → Int32) (a : Nat → Nat → Int32) (l : List Nat), shM st ≤ m → m < q → c + shM st ≤ 600000 → shR (a 0) T (a 29) (a 30) st → TX i a l → l.length + (shO bare st).length + 60 ≤ 8192 → ∃ i' a', m_Output_addShown_b42 n g q i a (b1 bare) (nI st.length) (nI c) = some (i', a', nI 0) ∧ TX i' a' (l ++ shO bare st) ∧ oF i a i' a' := by
  have hT : T ≤ 340000 := by omega
  intro m
  induction m with
  | zero =>
    intro q c st i a l h1 h2 h3 hr htx hlen
    obtain ⟨q, rfl⟩ : ∃ q', q = q' + 1 := ⟨q - 1, by omega⟩
    cases st with
    | nil =>
      refine ⟨i, a, ?_, by show TX i a (l ++ []); rw [List.append_nil]; exact htx, oF_refl i a⟩
      rw [m_Output_addShown_b42, if_neg (show ¬ (1000000 : Int32) ≤ nI c from nI_ge (b := 1000000) (by omega) (by decide)), if_pos (by decide)]
      rfl
    | cons x st =>
      obtain ⟨l', k⟩ := x
      rw [shM] at h1
      omega
  | succ m ih =>
    intro q c st i a l h1 h2 h3 hr htx hlen
    obtain ⟨q, rfl⟩ : ∃ q', q = q' + 1 := ⟨q - 1, by omega⟩
    cases st with
    | nil =>
      refine ⟨i, a, ?_, by show TX i a (l ++ []); rw [List.append_nil]; exact htx, oF_refl i a⟩
      rw [m_Output_addShown_b42, if_neg (show ¬ (1000000 : Int32) ≤ nI c from nI_ge (b := 1000000) (by omega) (by decide)), if_pos (by decide)]
      rfl
    | cons x st =>
      obtain ⟨ms, k⟩ := x
      obtain ⟨r1, r4, r5, r6, r7⟩ := hr
      rw [shM] at h1 h3
      have hd1 : 1 ≤ tDp (tL ms) := by
        cases ms with
        | nil => exact Nat.le_refl _
        | cons z l => show 1 ≤ max _ _; omega
      have hcl := cV_cnt r1 (isL_tL ms)
      rw [tMem_tL] at hcl
      simp only [List.length_cons]
      have hc1 : ∀ (bb : Int32) (i a), (m_Output_addShown_b187 n g (m_Output_addShown_b42 n g q) i a (b1 bare) bb (nI c)) = m_Output_addShown_b42 n g q i a (b1 bare) bb (nI (c + 1)) := by
        intro bb i a
        unfold m_Output_addShown_b187
        rw [ob1_s, show nI c + 1 = nI (c + 1) from nI_1 c]
      have hof30 : ∀ (y : Int32), oF i a i (sv a 30 st.length y) := fun y => ⟨fun _ _ => rfl, fun q h1 h2 h3 => by unfold sv; rw [updA_ne h3]⟩
      rcases Nat.lt_or_ge k ms.length with hk | hk
      · obtain ⟨x, p1, p2⟩ := h_member (n := n) (g := g) (i := i) (a := sv a 30 st.length (nI (k + 1))) ht hg r1 hk
        have no := cV_no hT p2
        obtain ⟨_, kl, _⟩ := cV_kinds hT p2 n
        have hdrop : ((ms.drop k).map tSz).sum = tSz ms[k] + ((ms.drop (k + 1)).map tSz).sum := by
          rw [List.drop_eq_getElem_cons hk, List.map_cons, List.sum_cons]
        have hs1 := cV_sz p2
        -- what comes of this member
        have hO : shO bare ((ms, k) :: st) = (if k = 0 then [] else [32]) ++ (aSh ms[k] 0 ++ shO bare ((ms, k + 1) :: st)) := by
          show aSh (tL (ms.drop k)) (if k = 0 then 1 else 2) ++ _ = _ ++ (_ ++ (aSh (tL (ms.drop (k + 1))) (if k + 1 = 0 then 1 else 2) ++ _))
          rw [List.drop_eq_getElem_cons hk, if_neg (show ¬ k + 1 = 0 by omega)]
          rcases Nat.eq_zero_or_pos k with h0 | h0
          · rw [if_pos h0, if_pos h0]
            show (aSh ms[k] 0 ++ aSh (tL (ms.drop (k + 1))) 2) ++ _ = [] ++ _
            rw [List.nil_append, List.append_assoc]
          · rw [if_neg (show ¬ k = 0 by omega), if_neg (show ¬ k = 0 by omega)]
            show (32 :: (aSh ms[k] 0 ++ aSh (tL (ms.drop (k + 1))) 2)) ++ _ = [32] ++ _
            rw [List.cons_append, List.append_assoc]
            rfl
        -- behind the blank
        obtain ⟨i1, a1, l1, hb1, hb2, hb3, hb4, hb5, hb6⟩ : ∃ i1 a1 l1, m_Output_addShown_b42 n g (q + 1) i a (b1 bare) (nI (st.length + 1)) (nI c) = m_Output_addShown_b112 n g (m_Output_addShown_b42 n g q) i1 a1 (b1 bare) (nI (st.length + 1)) (nI c) x ∧ TX i1 a1 l1 ∧ l1 = l ++ (if k = 0 then [] else [32]) ∧ oF i a i1 a1 ∧ a1 29 = a 29 ∧ a1 30 = upd (a 30) st.length (nI (k + 1)) := by
          rw [sh_step (by omega) (by omega) (by omega) r4 p1, if_neg (show ¬ x = (-2147483648 : Int32) from no)]
          rcases Nat.eq_zero_or_pos k with h0 | h0
          · refine ⟨i, sv a 30 st.length (nI (k + 1)), l, ?_, htx, by rw [if_pos h0, List.append_nil], hof30 _, rfl, rfl⟩
            subst h0
            rw [if_pos (by decide)]
          · obtain ⟨e1, e2, e3⟩ := h_add (n := n) (g := g) (i := i) (a := sv a 30 st.length (nI (k + 1))) (l := l) (c := 32) htx (by omega)
            refine ⟨_, _, l ++ [32], ?_, e2, by rw [if_neg (by omega)], oF_trans (hof30 _) e3, rfl, rfl⟩
            rw [if_neg (show ¬ nI k ≤ (0 : Int32) from nI_nle h0 (by omega))]
            show ob (m_Output_add n g i (sv a 30 st.length (nI (k + 1))) (nI 32)) _ = _
            rw [e1, ob_s]
        have hb0 : a1 0 = a 0 := hb4.2 0 (by decide) (by decide) (by decide)
        have hlen1 : l1.length + (aSh ms[k] 0).length + (shO bare ((ms, k + 1) :: st)).length + 60 ≤ 8192 := by
          rw [hO] at hlen
          rw [hb3]
          simp only [List.length_append] at hlen ⊢
          omega
        have hcf : shR (a1 0) T (a1 29) (a1 30) ((ms, k + 1) :: st) := by
          rw [hb0, hb5, hb6]
          exact ⟨r1, upd_at, by omega, r6, shR_keep st (fun j hj => ⟨rfl, upd_ne (by omega)⟩) r7⟩
        have p2' : cV (a1 0) T ms[k] none x := by rw [hb0]; exact p2
        cases hl : isL ms[k] with
        | false =>
          obtain ⟨i2, a2, f1, f2, f3, f4, f5⟩ := h_addFlat (n := n) (g := g) hn ht hg hb2 p2' hl (by omega)
          have hf0 : a2 0 = a1 0 := f3.2 0 (by decide) (by decide) (by decide)
          obtain ⟨i3, a3, z1, z2, z3⟩ := ih q (c + 1) ((ms, k + 1) :: st) i2 a2 (l1 ++ aSh ms[k] 0) (by rw [shM]; omega) (by omega) (by rw [shM]; omega) (by rw [hf0, f4, f5]; exact hcf) f2 (by rw [List.length_append]; omega)
          refine ⟨i3, a3, ?_, ?_, oF_trans hb4 (oF_trans f3 z3)⟩
          · rw [hb1]
            unfold m_Output_addShown_b112
            rw [if_neg (show ¬ x = (-2147483648 : Int32) from no), kl, ob0_s, hl, b1_f, if_pos (show nI 0 = (0 : Int32) from rfl), f1, ob_s, hc1]
            exact z1
          · rw [hO, ← List.append_assoc, ← hb3, ← List.append_assoc]
            exact z2
        | true =>
          have t1 := isL_eq p2' hl
          have p3 := p2'
          rw [t1] at p3
          have hdm := tDp_mem (List.getElem_mem hk)
          obtain ⟨e1, e2, e3⟩ := h_add (n := n) (g := g) (i := i1) (a := a1) (l := l1) (c := 91) hb2 (by omega)
          have hsz : tSz ms[k] = 1 + ((tMem ms[k]).map tSz).sum := by
            conv => lhs; rw [t1]
            exact tSz_tL _
          have hM : shM ((tMem ms[k], 0) :: (ms, k + 1) :: st) = 1 + 2 * ((tMem ms[k]).map tSz).sum + (1 + 2 * ((ms.drop (k + 1)).map tSz).sum + shM st) := rfl
          have hO2 : 91 :: shO bare ((tMem ms[k], 0) :: (ms, k + 1) :: st) = aSh ms[k] 0 ++ shO bare ((ms, k + 1) :: st) := by
            show 91 :: (aSh (tL (tMem ms[k])) 1 ++ ((if ((ms, k + 1) :: st : List ShF) = [] ∧ bare = true then [] else [93]) ++ shO bare ((ms, k + 1) :: st))) = _
            rw [if_neg (by rintro ⟨h, _⟩; cases h)]
            conv => rhs; rw [t1, aSh_l0]
            simp only [List.cons_append, List.append_assoc, List.nil_append]
          have hnew : shR (sv (sv (sv a1 28 l1.length (nI 91)) 29 (st.length + 1) x) 30 (st.length + 1) (nI 0) 0) T (sv (sv (sv a1 28 l1.length (nI 91)) 29 (st.length + 1) x) 30 (st.length + 1) (nI 0) 29) (sv (sv (sv a1 28 l1.length (nI 91)) 29 (st.length + 1) x) 30 (st.length + 1) (nI 0) 30) ((tMem ms[k], 0) :: (ms, k + 1) :: st) := by
            refine ⟨?_, upd_at, by omega, ?_, shR_keep _ (fun j hj => ?_) hcf⟩
            · show cV (a1 0) T (tL (tMem ms[k])) none (upd (a1 29) (st.length + 1) x (st.length + 1))
              rw [upd_at]; exact p3
            · rw [← t1]
              show tDp ms[k] + (st.length + 1) ≤ 620
              omega
            · have hj : j < st.length + 1 := hj
              exact ⟨upd_ne (by omega), upd_ne (by omega)⟩
          have hlen2 : (shO bare ((tMem ms[k], 0) :: (ms, k + 1) :: st)).length + 1 = (aSh ms[k] 0).length + (shO bare ((ms, k + 1) :: st)).length := by
            rw [← List.length_append, ← hO2, List.length_cons]
          obtain ⟨i3, a3, z1, z2, z3⟩ := ih q (c + 1) ((tMem ms[k], 0) :: (ms, k + 1) :: st) (upd i1 23 (nI (l1.length + 1))) (sv (sv (sv a1 28 l1.length (nI 91)) 29 (st.length + 1) x) 30 (st.length + 1) (nI 0)) (l1 ++ [91]) (by omega) (by omega) (by omega) hnew e2 (by rw [List.length_append, List.length_singleton]; omega)
          refine ⟨i3, a3, ?_, ?_, oF_trans hb4 (oF_trans e3 (oF_trans ⟨fun _ _ => rfl, fun q h1 h2 h3 => ?_⟩ z3))⟩
          · rw [hb1]
            unfold m_Output_addShown_b112
            rw [if_neg (show ¬ x = (-2147483648 : Int32) from no), kl, ob0_s, hl, b1_t, if_neg (by decide), if_neg (show ¬ (700 : Int32) ≤ nI (st.length + 1) from nI_ge (a := st.length + 1) (b := 700) (by omega) (by decide))]
            show ob (m_Output_add n g i1 a1 (nI 91)) _ = _
            rw [e1, ob_s, ck_n (by omega), ob1_s, cl_n (by omega), ck_n (by omega), ob1_s, ob1_s, show nI (st.length + 1) + 1 = nI (st.length + 1 + 1) from nI_1 _, hc1]
            exact z1
          · rw [hO, ← List.append_assoc, ← hb3, ← hO2]
            rw [List.append_assoc] at z2
            exact z2
          · unfold sv
            rw [updA_ne h3, updA_ne h2]
      · have p1 := h_member_no (n := n) (g := g) (i := i) (a := sv a 30 st.length (nI (k + 1))) ht hg r1 hk (by omega)
        have hO : shO bare ((ms, k) :: st) = (if st = [] ∧ bare = true then [] else [93]) ++ shO bare st := by
          show aSh (tL (ms.drop k)) (if k = 0 then 1 else 2) ++ _ = _
          rw [List.drop_eq_nil_of_le hk]
          have : aSh (tL []) (if k = 0 then 1 else 2) = [] := by split <;> rfl
          rw [this, List.nil_append]
        have hneg : nI (st.length + 1) + -1 = nI st.length := by
          show nI (st.length + 1) + -nI 1 = nI st.length
          rw [← Int32.sub_eq_add_neg, sub_n (by omega), show st.length + 1 - 1 = st.length by omega]
        have hkeep : shR (sv a 30 st.length (nI (k + 1)) 0) T (sv a 30 st.length (nI (k + 1)) 29) (sv a 30 st.length (nI (k + 1)) 30) st := shR_keep st (fun j hj => ⟨rfl, upd_ne (by omega)⟩) r7
        rw [hO] at hlen ⊢
        rw [sh_step (by omega) (by omega) (by omega) r4 p1, if_pos (show -nI 2147483648 = (-2147483648 : Int32) from rfl)]
        unfold m_Output_addShown_b112
        rw [if_pos (show -nI 2147483648 = (-2147483648 : Int32) from rfl), ob1_s, hneg]
        rcases Classical.em (st = [] ∧ bare = true) with he | he
        · rw [if_pos he] at hlen ⊢
          obtain ⟨he1, he2⟩ := he
          obtain ⟨i3, a3, z1, z2, z3⟩ := ih q (c + 1) st i (sv a 30 st.length (nI (k + 1))) l (by omega) (by omega) (by omega) hkeep htx (by rw [List.nil_append] at hlen; exact hlen)
          refine ⟨i3, a3, ?_, by rw [List.nil_append]; exact z2, oF_trans (hof30 _) z3⟩
          rw [← z1, ← hc1]
          subst he1 he2
          rw [if_neg (by decide), b1_t, if_neg (by decide)]
        · rw [if_neg he] at hlen ⊢
          simp only [List.length_append, List.length_singleton] at hlen
          obtain ⟨e1, e2, e3⟩ := h_add (n := n) (g := g) (i := i) (a := sv a 30 st.length (nI (k + 1))) (l := l) (c := 93) htx (by omega)
          obtain ⟨i3, a3, z1, z2, z3⟩ := ih q (c + 1) st _ _ (l ++ [93]) (by omega) (by omega) (by omega) (show shR (sv (sv a 30 st.length (nI (k + 1))) 28 l.length (nI 93) 0) T (sv (sv a 30 st.length (nI (k + 1))) 28 l.length (nI 93) 29) (sv (sv a 30 st.length (nI (k + 1))) 28 l.length (nI 93) 30) st from hkeep) e2 (by rw [List.length_append, List.length_singleton]; omega)
          rw [List.append_assoc] at z2
          refine ⟨i3, a3, ?_, z2, oF_trans (hof30 _) (oF_trans e3 z3)⟩
          have hadd : m_Output_addShown_b130 n g (m_Output_addShown_b42 n g q) i (sv a 30 st.length (nI (k + 1))) (b1 bare) (nI st.length) (nI c) = some (i3, a3, nI 0) := by
            unfold m_Output_addShown_b130
            show ob (m_Output_add n g i (sv a 30 st.length (nI (k + 1))) (nI 93)) _ = _
            rw [e1, ob_s, hc1]
            exact z1
          rcases Nat.eq_zero_or_pos st.length with h0 | h0
          · have hst : st = [] := List.length_eq_zero_iff.mp h0
            have hb : bare = false := by
              cases bare with
              | false => rfl
              | true => exact absurd ⟨hst, rfl⟩ he
            subst hb
            rw [if_neg (by rw [h0]; decide), if_pos (show b1 false = (0 : Int32) from rfl)]
            exact hadd
          · rw [if_pos (show (0 : Int32) < nI st.length from nI_lt (a := 0) h0 (by omega))]
            exact hadd
/-- a value, behind what is there -/
theorem h_shown {n : Nat} {g : Nat → Nat} {i : Nat → Int32} {a : Nat → Nat → Int32} {T : Nat} {bare : Bool} {l : List Nat} {v : Tr} {x : Int32} (hn : 300000 ≤ n) (ht : T ≤ g 0) (hg : g 0 ≤ 340000) (h : TX i a l) (hx : cV (a 0) T v none x) (hl : l.length ≤ 60) : ∃ i' a', m_Output_addShown n g i a x (b1 bare) = some (i', a', nI 0) ∧ TX i' a' (l ++ aShow v bare) ∧ oF i a i' a' ∧ (isL v = false → (aShow v bare).length ≤ 30) ∧ (aShow v bare).length ≤ 8000 := by
  have hT : T ≤ 340000 := by omega
  obtain ⟨_, kl, _⟩ := cV_kinds hT hx n
  unfold m_Output_addShown aShow
  cases hv : isL v with
  | false =>
    have hlen : (aSh v 0).length ≤ 30 := by
      rcases cV_cases hx with ⟨k, rfl, _⟩ | ⟨w, p, rfl, _, h3⟩ | ⟨ms, p, rfl, _⟩
      · have := aNumS_len k
        show (aNumS k).length ≤ 30
        omega
      · rw [aSh_tW]; exact h3.2.2.1
      · rw [isL_tL] at hv; cases hv
    obtain ⟨i', a', z1, z2, z3, _⟩ := h_addFlat (n := n) (g := g) (by omega) ht hg h hx hv (by omega)
    rw [hv] at kl
    refine ⟨i', a', ?_, z2, z3, fun _ => hlen, by show (aSh v 0).length ≤ 8000; omega⟩
    rw [kl, ob0_s, b1_f, if_pos (show nI 0 = (0 : Int32) from rfl), z1, ob_s]
    rfl
  | true =>
    have t1 := isL_eq hx hv
    have hx2 := hx
    rw [t1] at hx2
    obtain ⟨p, _, hq, _⟩ := cV_tL.mp hx2
    rw [← t1] at hq
    have hdp := hq.2.2.2.1.2.1
    have hsl : (aSh v 0).length ≤ 8000 := hq.2.2.2.1.2.2
    have hst := tSz_lt hx
    have hsz : tSz v = 1 + ((tMem v).map tSz).sum := by
      conv => lhs; rw [t1]
      exact tSz_tL _
    have e0 : aSh v 0 = 91 :: (aSh v 1 ++ [93]) := by
      rw [t1]; exact aSh_l0 _
    have hlen1 : (aSh v 0).length = (aSh v 1).length + 2 := by rw [e0]; simp
    have hO : shO bare [(tMem v, 0)] = aSh v 1 ++ (if bare = true then [] else [93]) := by
      show aSh (tL (tMem v)) 1 ++ ((if ([] : List ShF) = [] ∧ bare = true then [] else [93]) ++ []) = _
      rw [← t1, List.append_nil]
      cases bare <;> rfl
    have hM : shM [(tMem v, 0)] = 1 + 2 * ((tMem v).map tSz).sum + 0 := rfl
    rw [hv] at kl
    have loop : ∀ (i : Nat → Int32) (a1 : Nat → Nat → Int32) (l1 : List Nat), a1 0 = a 0 → TX i a1 l1 → l1.length ≤ 61 → ∃ i' a', m_Output_addShown_b23 n g i a1 x (b1 bare) = some (i', a', nI 0) ∧ TX i' a' (l1 ++ shO bare [(tMem v, 0)]) ∧ oF i a1 i' a' := by
      intro i a1 l1 h0 htx hl1
      have hOl : (shO bare [(tMem v, 0)]).length ≤ 8000 := by
        rw [hO]
        cases bare <;> simp <;> omega
      obtain ⟨i3, a3, z1, z2, z3⟩ := h_shown_b (n := n) (g := g) (T := T) (bare := bare) (by omega) ht hg (shM [(tMem v, 0)]) n 0 [(tMem v, 0)] i (sv (sv a1 29 0 x) 30 0 (nI 0)) l1 (Nat.le_refl _) (by omega) (by omega) ⟨by
          show cV (a1 0) T (tL (tMem v)) none (upd (a1 29) 0 x 0)
          rw [upd_at, h0]; exact hx2, by show upd (a1 30) 0 (nI 0) 0 = nI 0; rw [upd_at], by omega, by rw [← t1]; exact hdp, trivial⟩ htx (by omega)
      refine ⟨i3, a3, ?_, z2, oF_trans ⟨fun _ _ => rfl, fun q h1 h2 h3 => by unfold sv; rw [updA_ne h3, updA_ne h2]⟩ z3⟩
      unfold m_Output_addShown_b23
      rw [show (0 : Int32) = nI 0 from rfl, ck_n (by decide), ob1_s, cl_n (by decide), ck_n (by decide), ob1_s]
      exact z1
    cases bare with
    | true =>
      obtain ⟨i3, a3, z1, z2, z3⟩ := loop i a l rfl h (by omega)
      rw [hO] at z2
      refine ⟨i3, a3, ?_, ?_, z3, (fun h => by cases h), ?_⟩
      · rw [kl, ob0_s, b1_t, if_neg (by decide), if_neg (by decide)]
        exact z1
      · show TX i3 a3 (l ++ aSh v 1)
        rw [if_pos rfl, List.append_nil] at z2
        exact z2
      · show (aSh v 1).length ≤ 8000
        omega
    | false =>
      obtain ⟨e1, e2, e3⟩ := h_add (n := n) (g := g) (i := i) (a := a) (l := l) (c := 91) h (by omega)
      obtain ⟨i3, a3, z1, z2, z3⟩ := loop (upd i 23 (nI (l.length + 1))) (sv a 28 l.length (nI 91)) (l ++ [91]) rfl e2 (by rw [List.length_append, List.length_singleton]; omega)
      rw [hO, if_neg (by decide), List.append_assoc, List.singleton_append, ← e0] at z2
      refine ⟨i3, a3, ?_, z2, oF_trans e3 z3, (fun h => by cases h), hsl⟩
      rw [kl, ob0_s, b1_t, if_neg (by decide), if_pos (show b1 false = (0 : Int32) from rfl)]
      show ob (m_Output_add n g i a (nI 91)) _ = _
      rw [e1, ob_s]
      exact z1

