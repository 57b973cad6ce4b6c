/-! the reference shows lists -/
theorem tNd_tL (l : List Tr) : tNd (tL l) = 1 + (l.map tNd).sum := by
  induction l with
  | nil => rfl
  | cons m l ih =>
    show tNd m + tNd (tL l) = 1 + (tNd m + (l.map tNd).sum)
    omega
theorem tNd_mem {ms : List Tr} {k : Nat} (h : k < ms.length) : tNd ms[k] + 1 ≤ tNd (tL ms) := by
  induction ms generalizing k with
  | nil => exact absurd h (Nat.not_lt_zero k)
  | cons m ms ih =>
    show _ ≤ tNd m + tNd (tL ms)
    have q : 1 ≤ tNd (tL ms) := by rw [tNd_tL]; omega
    cases k with
    | zero => show tNd m + 1 ≤ _; omega
    | succ k =>
      have hk : k < ms.length := by simp at h; omega
      have := ih (k := k) hk
      show tNd (ms[k]'hk) + 1 ≤ _
      omega
theorem vL_inj {w u : Nat} (h : w < 2147483648) (h' : u < 2147483648) (e : vL w = vL u) : w = u := by
  have q := r_whatL (n := 0) h
  rw [e, r_whatL h'] at q
  exact ((nI_eq (by omega) (by omega)).mp (Option.some.inj q)).symm
theorem r_sz {a : Nat → Nat → Int32} {b : Nat → Nat → Int64} {B : RB4} {t : Tr} {v : Int64} (h : rV a b B t none v) : 1 ≤ tSz t := by
  rcases rV_cases h with ⟨k, rfl, _⟩ | ⟨l, w, rfl, _, h3⟩ | ⟨ms, l, p, rfl, _⟩
  · exact Nat.le_refl 1
  · rw [tSz_tW]
    have := List.length_pos_iff.mpr h3.2.2.2.1
    omega
  · rw [tSz_tL]; omega
def rsR (a : Nat → Nat → Int32) (b : Nat → Nat → Int64) (B : RB4) (f2 f3 : Nat → Int32) : List ShF → Prop
  | [] => True
  | (l, k) :: st => (∃ w, (f2 st.length = nI w ∧ w < 90000) ∧ rV a b B (tL l) none (vL w)) ∧ f3 st.length = nI k ∧ k ≤ l.length ∧ tNd (tL l) + st.length ≤ 1201 ∧ rsR a b B f2 f3 st
theorem rsR_keep {i i' : Nat → Int32} {a a' : Nat → Nat → Int32} {b : Nat → Nat → Int64} {B : RB4} {f2 f3 f2' f3' : Nat → Int32} (ho : oR i a i' a') (hB : B.1 ≤ 120000 ∧ B.2.1 ≤ 300000 ∧ B.2.2.1 ≤ 90000 ∧ B.2.2.2 ≤ 90000) : ∀ (st : List ShF), (∀ j, j < st.length → f2' j = f2 j ∧ f3' j = f3 j) → rsR a b B f2 f3 st → rsR a' b B f2' f3' st := by
  intro st
  induction st with
  | nil => intro _ _; trivial
  | cons q st ih =>
    obtain ⟨l, k⟩ := q
    intro hj h
    obtain ⟨⟨w, ⟨h1, h3⟩, h2⟩, h4, h5, h6, h7⟩ := h
    obtain ⟨e1, e3⟩ := hj st.length (by simp)
    exact ⟨⟨w, ⟨e1.trans h1, h3⟩, rV_oR ho hB h2⟩, e3.trans h4, h5, h6, ih (fun j hj' => hj j (by simp; omega)) h7⟩
theorem r_isL_eq {a : Nat → Nat → Int32} {b : Nat → Nat → Int64} {B : RB4} {t : Tr} {v : Int64} (h : rV a b B t none v) (hw : isL t = true) : t = tL (tMem t) := by
  rcases rV_cases h with ⟨k, rfl, _⟩ | ⟨l, w, rfl, _⟩ | ⟨ms, l, p, rfl, _⟩
  · rw [isL_tN] at hw; cases hw
  · rw [isL_tW] at hw; cases hw
  · rw [tMem_tL]
theorem oR27 {i : Nat → Int32} {a : Nat → Nat → Int32} (d : Nat) (y : Int32) : oR i a i (sv a 27 d y) := ⟨fun _ _ => rfl, fun q h1 h2 h3 => by unfold sv; rw [updA_ne h3]⟩
theorem oR26 {i : Nat → Int32} {a : Nat → Nat → Int32} (d : Nat) (y : Int32) : oR i a i (sv a 26 d y) := ⟨fun _ _ => rfl, fun q h1 h2 h3 => by unfold sv; rw [updA_ne h2]⟩
/-- a member, the list being in hand -/
theorem r_show_b {n : Nat} {j : Nat → Int64} {b : Nat → Nat → Int64} {B : RB4} {bare : Bool} (hn : 1000 ≤ n) (hB : B.1 ≤ 120000 ∧ B.2.1 ≤ 300000 ∧ B.2.2.1 ≤ 90000 ∧ B.2.2.2 ≤ 90000) : ∀ (m q : Nat) (st : List ShF) (i : Nat → Int32) (a : Nat → Nat → Int32) (l : List Nat), shM st ≤ m → m < q → rsR a b B (a 26) (a 27) st → TR i a l → l.length + (shO bare st).length + 60 ≤ 40000 → ∃ i' a', m_Model_show_b48 n q i j a b (b1 bare) (nI st.length) = some (i', j, a', b, 0) ∧ TR i' a' (l ++ shO bare st) ∧ oR i a i' a' := by
  intro m
  induction m with
  | zero =>
    intro q st i a l h1 h2 hr htx hlen
    obtain ⟨q, rfl⟩ : ∃ q', q = q' + 1 := ⟨q - 1, by omega⟩
    cases st with
    | nil =>
      refine ⟨i, a, ?_, by show TR i a (l ++ []); rw [List.append_nil]; exact htx, oR_refl i a⟩
      rw [m_Model_show_b48, if_pos (by decide)]
    | cons x st =>
      obtain ⟨l', k⟩ := x
      rw [shM] at h1
      omega
  | succ m ih =>
    intro q st i a l h1 h2 hr htx hlen
    obtain ⟨q, rfl⟩ : ∃ q', q = q' + 1 := ⟨q - 1, by omega⟩
    cases st with
    | nil =>
      refine ⟨i, a, ?_, by show TR i a (l ++ []); rw [List.append_nil]; exact htx, oR_refl i a⟩
      rw [m_Model_show_b48, if_pos (by decide)]
    | cons x st =>
      obtain ⟨ms, k⟩ := x
      obtain ⟨⟨w, ⟨r0, r2⟩, r1⟩, r4, r5, r6, r7⟩ := hr
      rw [shM] at h1
      have hd1 : 1 ≤ tNd (tL ms) := by rw [tNd_tL]; omega
      obtain ⟨w', p, ew, hh, hmem⟩ := rV_tL.mp r1
      obtain ⟨g1, g2, g3, g4, g5, g6, g7, g8, g9, g10⟩ := id hh
      have ew2 : w = w' := vL_inj (by omega) (by omega) ew
      subst ew2
      simp only [List.length_cons]
      have start : m_Model_show_b48 n (q + 1) i j a b (b1 bare) (nI (st.length + 1)) = (if nI k = nI ms.length then ob1 (nI (st.length + 1) + (-1) : Int32) (fun x_15 => if ((0 : Int32)) < x_15 then m_Model_show_b99 n (m_Model_show_b48 n q) i j a b (b1 bare) x_15 else if b1 bare = ((0 : Int32)) then m_Model_show_b99 n (m_Model_show_b48 n q) i j a b (b1 bare) x_15 else m_Model_show_b48 n q i j a b (b1 bare) x_15) else if nI k ≤ ((0 : Int32)) then m_Model_show_b119 n (m_Model_show_b48 n q) i j a b (b1 bare) (nI (st.length + 1)) (nI w) (nI k) else om (m_Model_say n i j a b (32 : Int32)) (fun i_10 j_11 a_12 b_13 r_14 => m_Model_show_b119 n (m_Model_show_b48 n q) i_10 j_11 a_12 b_13 (b1 bare) (nI (st.length + 1)) (nI w) (nI k))) := by
        rw [m_Model_show_b48, if_neg (show ¬ nI (st.length + 1) ≤ (0 : Int32) from nI_nle (by omega) (by omega)), show nI (st.length + 1) - 1 = nI st.length from nI_pred _, ck_n (by omega), ob1_s, cl_n (by omega), r0, ck_n (by omega), ob1_s, r4, ck_n (by omega), cl_n (by omega), g5]
      rcases Nat.lt_or_ge k ms.length with hk | hk
      · have p2 := hmem k hk
        obtain ⟨_, _, kl⟩ := r_kinds n p2
        have hdrop : ((ms.drop k).map tSz).sum = tSz ms[k] + ((ms.drop (k + 1)).map tSz).sum := by
          rw [List.drop_eq_getElem_cons hk, List.map_cons, List.sum_cons]
        have hs1 : 1 ≤ tSz ms[k] := r_sz p2
        have hO : shO bare ((ms, k) :: st) = (if k = 0 then [] else [32]) ++ (aSh ms[k] 0 ++ shO bare ((ms, k + 1) :: st)) := by
          show aSh (tL (ms.drop k)) (if k = 0 then 1 else 2) ++ _ = _ ++ (_ ++ (aSh (tL (ms.drop (k + 1))) (if k + 1 = 0 then 1 else 2) ++ _))
          rw [List.drop_eq_getElem_cons hk, if_neg (show ¬ k + 1 = 0 by omega)]
          rcases Nat.eq_zero_or_pos k with h0 | h0
          · rw [if_pos h0, if_pos h0]
            show (aSh ms[k] 0 ++ aSh (tL (ms.drop (k + 1))) 2) ++ _ = [] ++ _
            rw [List.nil_append, List.append_assoc]
          · rw [if_neg (show ¬ k = 0 by omega), if_neg (show ¬ k = 0 by omega)]
            show (32 :: (aSh ms[k] 0 ++ aSh (tL (ms.drop (k + 1))) 2)) ++ _ = [32] ++ _
            rw [List.cons_append, List.append_assoc]
            rfl
        -- behind the blank
        obtain ⟨i1, a1, l1, hb1, hb2, hb3, hb4⟩ : ∃ i1 a1 l1, m_Model_show_b48 n (q + 1) i j a b (b1 bare) (nI (st.length + 1)) = m_Model_show_b119 n (m_Model_show_b48 n q) i1 j a1 b (b1 bare) (nI (st.length + 1)) (nI w) (nI k) ∧ TR i1 a1 l1 ∧ l1 = l ++ (if k = 0 then [] else [32]) ∧ oS i a i1 a1 := by
          rw [start, ieq_n ⟨by omega, by omega, by omega⟩]
          rcases Nat.eq_zero_or_pos k with h0 | h0
          · refine ⟨i, a, l, ?_, htx, by rw [if_pos h0, List.append_nil], oS_refl i a⟩
            subst h0
            rw [if_pos (by decide)]
          · obtain ⟨e1, e2, e3⟩ := r_say (n := n) (j := j) (b := b) (c := 32) htx (by omega) (by omega)
            refine ⟨_, _, l ++ [32], ?_, e2, by rw [if_neg (by omega)], e3⟩
            rw [if_neg (show ¬ nI k ≤ (0 : Int32) from nI_nle h0 (by omega))]
            show om (m_Model_say n i j a b (nI 32)) _ = _
            rw [e1, om_s]
        have hlen1 : l1.length + (aSh ms[k] 0).length + (shO bare ((ms, k + 1) :: st)).length + 60 ≤ 40000 := by
          rw [hO] at hlen
          rw [hb3]
          simp only [List.length_append] at hlen ⊢
          omega
        have q27 : a1 27 = a 27 := hb4.2 27 (by decide)
        have q26 : a1 26 = a 26 := hb4.2 26 (by decide)
        have ho1 : oR i a i1 (sv a1 27 st.length (nI (k + 1))) := oR_trans (oS_oR hb4) (oR27 _ _)
        have hcf : rsR (sv a1 27 st.length (nI (k + 1))) b B (a 26) (upd (a 27) st.length (nI (k + 1))) ((ms, k + 1) :: st) :=
          ⟨⟨w, ⟨r0, r2⟩, rV_oR ho1 hB r1⟩, upd_at, by omega, r6, rsR_keep ho1 hB st (fun j hj => ⟨rfl, upd_ne (by omega)⟩) r7⟩
        have p2' := rV_oR ho1 hB p2
        have step : m_Model_show_b119 n (m_Model_show_b48 n q) i1 j a1 b (b1 bare) (nI (st.length + 1)) (nI w) (nI k) = (if b1 (isL ms[k]) = ((0 : Int32)) then om (m_Model_sayFlat n i1 j (sv a1 27 st.length (nI (k + 1))) b (b 10 (p + k))) (fun i_11 j_12 a_13 b_14 r_15 => m_Model_show_b48 n q i_11 j_12 a_13 b_14 (b1 bare) (nI (st.length + 1))) else om (m_Model_say n i1 j (sv a1 27 st.length (nI (k + 1))) b (91 : Int32)) (fun i_17 j_18 a_19 b_20 r_21 => ob0 (m_Model_what n (b 10 (p + k))) (fun r_23 => ck (nI (st.length + 1)) 1300 (ob1 (sv a_19 26 (nI (st.length + 1)).toNatClampNeg r_23 : Nat → Nat → Int32) (fun a_25 => ck (nI (st.length + 1)) 1300 (ob1 (sv a_25 27 (nI (st.length + 1)).toNatClampNeg 0 : Nat → Nat → Int32) (fun a_27 => ob1 (nI (st.length + 1) + 1 : Int32) (fun x_28 => m_Model_show_b48 n q i_17 j_18 a_27 b_20 (b1 bare) x_28)))))))) := by
          have q12 : sv a1 27 st.length (nI (k + 1)) 12 = a 12 := by show a1 12 = a 12; exact hb4.2 12 (by decide)
          unfold m_Model_show_b119 m_Model_show_b195
          rw [show nI (st.length + 1) - 1 = nI st.length from nI_pred _, ck_n (by omega), ck_n (by omega), cl_n (by omega), q27, r4, show nI k + 1 = nI (k + 1) from nI_1 k, ob1_s, ck_n (by omega), cl_n (by omega), q12, g4, nI_add, ck_n (by omega), cl_n (by omega), ob1_s, kl, ob0_s]
        cases hl : isL ms[k] with
        | false =>
          obtain ⟨i2, a2, f1, f2, f3⟩ := r_sayFlat (n := n) (j := j) (i := i1) (l := l1) hn p2' hl hb2 (by omega)
          have f26 : a2 26 = a 26 := (f3.2 26 (by decide)).trans q26
          have f27 : a2 27 = upd (a 27) st.length (nI (k + 1)) := (f3.2 27 (by decide)).trans (by show upd (a1 27) _ _ = _; rw [q27])
          obtain ⟨i3, a3, z1, z2, z3⟩ := ih q ((ms, k + 1) :: st) i2 a2 (l1 ++ aSh ms[k] 0) (by rw [shM]; omega) (by omega) (by rw [f26, f27]; exact rsR_keep (oS_oR f3) hB _ (fun j _ => ⟨rfl, rfl⟩) hcf) f2 (by rw [List.length_append]; omega)
          refine ⟨i3, a3, ?_, ?_, oR_trans ho1 (oR_trans (oS_oR f3) z3)⟩
          · rw [hb1, step, hl, b1_f, if_pos (show nI 0 = (0 : Int32) from rfl), f1, om_s]
            exact z1
          · rw [hO, ← List.append_assoc, ← hb3, ← List.append_assoc]
            exact z2
        | true =>
          have t1 := r_isL_eq p2' hl
          have p3 := p2'
          rw [t1] at p3
          obtain ⟨u, pu, eu, hhu, _⟩ := rV_tL.mp p3
          have hdm := tNd_mem hk
          obtain ⟨e1, e2, e3⟩ := r_say (n := n) (i := i1) (a := sv a1 27 st.length (nI (k + 1))) (j := j) (b := b) (l := l1) (c := 91) hb2 (by omega) (by omega)
          have hsz : tSz ms[k] = 1 + ((tMem ms[k]).map tSz).sum := by
            conv => lhs; rw [t1]
            exact tSz_tL _
          have hM : shM ((tMem ms[k], 0) :: (ms, k + 1) :: st) = 1 + 2 * ((tMem ms[k]).map tSz).sum + (1 + 2 * ((ms.drop (k + 1)).map tSz).sum + shM st) := rfl
          have hO2 : 91 :: shO bare ((tMem ms[k], 0) :: (ms, k + 1) :: st) = aSh ms[k] 0 ++ shO bare ((ms, k + 1) :: st) := by
            show 91 :: (aSh (tL (tMem ms[k])) 1 ++ ((if ((ms, k + 1) :: st : List ShF) = [] ∧ bare = true then [] else [93]) ++ shO bare ((ms, k + 1) :: st))) = _
            rw [if_neg (by rintro ⟨h, _⟩; cases h)]
            conv => rhs; rw [t1, aSh_l0]
            simp only [List.cons_append, List.append_assoc, List.nil_append]
          have ho3 : oR i1 (sv a1 27 st.length (nI (k + 1))) (upd i1 25 (nI (l1.length + 1))) (sv (sv (sv (sv a1 27 st.length (nI (k + 1))) 24 l1.length (nI 91)) 26 (st.length + 1) (nI u)) 27 (st.length + 1) 0) := oR_trans (oS_oR e3) (oR_trans (oR26 _ _) (oR27 _ _))
          have hnew : rsR (sv (sv (sv (sv a1 27 st.length (nI (k + 1))) 24 l1.length (nI 91)) 26 (st.length + 1) (nI u)) 27 (st.length + 1) 0) b B (upd (a 26) (st.length + 1) (nI u)) (upd (upd (a 27) st.length (nI (k + 1))) (st.length + 1) 0) ((tMem ms[k], 0) :: (ms, k + 1) :: st) := by
            refine ⟨⟨u, ⟨upd_at, by have := hhu.1; have := hhu.2.1; omega⟩, ?_⟩, upd_at, by omega, ?_, rsR_keep ho3 hB _ (fun j hj => ?_) hcf⟩
            · rw [← eu]; exact rV_oR ho3 hB p3
            · rw [← t1]
              show tNd ms[k] + (st.length + 1) ≤ 1201
              omega
            · have hj : j < st.length + 1 := hj
              exact ⟨upd_ne (by omega), upd_ne (by omega)⟩
          have hlen2 : (shO bare ((tMem ms[k], 0) :: (ms, k + 1) :: st)).length + 1 = (aSh ms[k] 0).length + (shO bare ((ms, k + 1) :: st)).length := by
            rw [← List.length_append, ← hO2, List.length_cons]
          have n26 : sv (sv (sv (sv a1 27 st.length (nI (k + 1))) 24 l1.length (nI 91)) 26 (st.length + 1) (nI u)) 27 (st.length + 1) 0 26 = upd (a 26) (st.length + 1) (nI u) := by
            show upd (a1 26) _ _ = _
            rw [q26]
          have n27 : sv (sv (sv (sv a1 27 st.length (nI (k + 1))) 24 l1.length (nI 91)) 26 (st.length + 1) (nI u)) 27 (st.length + 1) 0 27 = upd (upd (a 27) st.length (nI (k + 1))) (st.length + 1) 0 := by
            show upd (upd (a1 27) _ _) _ _ = _
            rw [q27]
          obtain ⟨i3, a3, z1, z2, z3⟩ := ih q ((tMem ms[k], 0) :: (ms, k + 1) :: st) (upd i1 25 (nI (l1.length + 1))) (sv (sv (sv (sv a1 27 st.length (nI (k + 1))) 24 l1.length (nI 91)) 26 (st.length + 1) (nI u)) 27 (st.length + 1) 0) (l1 ++ [91]) (by omega) (by omega) (by rw [n26, n27]; exact hnew) e2 (by rw [List.length_append, List.length_singleton]; omega)
          refine ⟨i3, a3, ?_, ?_, oR_trans ho1 (oR_trans ho3 z3)⟩
          · rw [hb1, step, hl, b1_t, if_neg (by decide)]
            show om (m_Model_say n i1 j (sv a1 27 st.length (nI (k + 1))) b (nI 91)) _ = _
            rw [e1, om_s, eu, r_whatL (by have := hhu.1; have := hhu.2.1; omega), ob0_s, ck_n (by omega), ob1_s, cl_n (by omega), ck_n (by omega), ob1_s, ob1_s, show nI (st.length + 1) + 1 = nI (st.length + 1 + 1) from nI_1 _]
            exact z1
          · rw [hO, ← List.append_assoc, ← hb3, ← hO2]
            rw [List.append_assoc] at z2
            exact z2
      · have hke : k = ms.length := by omega
        have hO : shO bare ((ms, k) :: st) = (if st = [] ∧ bare = true then [] else [93]) ++ shO bare st := by
          show aSh (tL (ms.drop k)) (if k = 0 then 1 else 2) ++ _ = _
          rw [List.drop_eq_nil_of_le hk]
          have : aSh (tL []) (if k = 0 then 1 else 2) = [] := by split <;> rfl
          rw [this, List.nil_append]
        have hneg : nI (st.length + 1) + -1 = nI st.length := by
          show nI (st.length + 1) + -nI 1 = nI st.length
          rw [← Int32.sub_eq_add_neg, sub_n (by omega), show st.length + 1 - 1 = st.length by omega]
        rw [hO] at hlen ⊢
        rw [start, ieq_p hke, ob1_s, hneg]
        rcases Classical.em (st = [] ∧ bare = true) with he | he
        · rw [if_pos he] at hlen ⊢
          obtain ⟨he1, he2⟩ := he
          obtain ⟨i3, a3, z1, z2, z3⟩ := ih q st i a l (by omega) (by omega) r7 htx (by rw [List.nil_append] at hlen; exact hlen)
          refine ⟨i3, a3, ?_, by rw [List.nil_append]; exact z2, z3⟩
          rw [← z1]
          subst he1 he2
          rw [if_neg (by decide), b1_t, if_neg (by decide)]
        · rw [if_neg he] at hlen ⊢
          simp only [List.length_append, List.length_singleton] at hlen
          obtain ⟨e1, e2, e3⟩ := r_say (n := n) (i := i) (a := a) (j := j) (b := b) (l := l) (c := 93) htx (by omega) (by omega)
          obtain ⟨i3, a3, z1, z2, z3⟩ := ih q st _ _ (l ++ [93]) (by omega) (by omega) (rsR_keep (oS_oR e3) hB st (fun j _ => ⟨rfl, rfl⟩) r7) e2 (by rw [List.length_append, List.length_singleton]; omega)
          rw [List.append_assoc] at z2
          refine ⟨i3, a3, ?_, z2, oR_trans (oS_oR e3) z3⟩
          have hadd : m_Model_show_b99 n (m_Model_show_b48 n q) i j a b (b1 bare) (nI st.length) = some (i3, j, a3, b, 0) := by
            unfold m_Model_show_b99
            show om (m_Model_say n i j a b (nI 93)) _ = _
            rw [e1, om_s]
            exact z1
          rcases Nat.eq_zero_or_pos st.length with h0 | h0
          · have hst : st = [] := List.length_eq_zero_iff.mp h0
            have hb : bare = false := by
              cases bare with
              | false => rfl
              | true => exact absurd ⟨hst, rfl⟩ he
            subst hb
            rw [if_neg (by rw [h0]; decide), if_pos (show b1 false = (0 : Int32) from rfl)]
            exact hadd
          · rw [if_pos (show (0 : Int32) < nI st.length from nI_lt (a := 0) h0 (by omega))]
            exact hadd
/-- a value, shown -/
theorem r_show {n : Nat} {i : Nat → Int32} {j : Nat → Int64} {a : Nat → Nat → Int32} {b : Nat → Nat → Int64} {B : RB4} {bare : Bool} {t : Tr} {v : Int64} (hn : 20000 ≤ n) (hB : B.1 ≤ 120000 ∧ B.2.1 ≤ 300000 ∧ B.2.2.1 ≤ 90000 ∧ B.2.2.2 ≤ 90000) (hv : rV a b B t none v) : ∃ i' a', m_Model_show n i j a b v (b1 bare) = some (i', j, a', b, 0) ∧ TR i' a' (aShow t bare) ∧ oR i a i' a' := by
  obtain ⟨_, _, kl⟩ := r_kinds n hv
  have h0 : TR (upd i 25 0) a [] := ⟨upd_at, fun k h => absurd h (Nat.not_lt_zero k)⟩
  have ho0 : oR i a (upd i 25 0) a := ⟨fun q hq => upd_ne hq, fun _ _ _ _ => rfl⟩
  unfold m_Model_show aShow
  rw [ob1_s, kl, ob0_s]
  cases hl : isL t with
  | false =>
    obtain ⟨i', a', z1, z2, z3⟩ := r_sayFlat (n := n) (j := j) (l := []) (by omega) hv hl h0 (by decide)
    refine ⟨i', a', ?_, z2, oR_trans ho0 (oS_oR z3)⟩
    rw [b1_f, if_pos (show nI 0 = (0 : Int32) from rfl), z1, om_s]
  | true =>
    have t1 := r_isL_eq hv hl
    have hv2 := hv
    rw [t1] at hv2
    obtain ⟨w, p, rfl, hh, _⟩ := rV_tL.mp hv2
    rw [← t1] at hh
    obtain ⟨g1, g2, g3, g4, g5, g6, g7, g8, g9, g10⟩ := id hh
    have hsl : (aSh t 0).length ≤ 8000 := g10
    have hsz : tSz t = 1 + ((tMem t).map tSz).sum := by
      conv => lhs; rw [t1]
      exact tSz_tL _
    have e0 : aSh t 0 = 91 :: (aSh t 1 ++ [93]) := by
      rw [t1]; exact aSh_l0 _
    have hlen1 : (aSh t 0).length = (aSh t 1).length + 2 := by rw [e0]; simp
    have hO : shO bare [(tMem t, 0)] = aSh t 1 ++ (if bare = true then [] else [93]) := by
      show aSh (tL (tMem t)) 1 ++ ((if ([] : List ShF) = [] ∧ bare = true then [] else [93]) ++ []) = _
      rw [← t1, List.append_nil]
      cases bare <;> rfl
    have hM : shM [(tMem t, 0)] = 1 + 2 * ((tMem t).map tSz).sum + 0 := rfl
    have loop : ∀ (i1 : Nat → Int32) (a1 : Nat → Nat → Int32) (l1 : List Nat), oR i a i1 a1 → TR i1 a1 l1 → l1.length ≤ 61 → ∃ i' a', m_Model_show_b28 n i1 j a1 b (vL w) (b1 bare) = some (i', j, a', b, 0) ∧ TR i' a' (l1 ++ shO bare [(tMem t, 0)]) ∧ oR i a i' a' := by
      intro i1 a1 l1 ho htx hl1
      have hOl : (shO bare [(tMem t, 0)]).length ≤ 8000 := by
        rw [hO]
        cases bare <;> simp <;> omega
      have ho2 : oR i a i1 (sv (sv a1 26 0 (nI w)) 27 0 0) := oR_trans ho (oR_trans (oR26 _ _) (oR27 _ _))
      obtain ⟨i3, a3, z1, z2, z3⟩ := r_show_b (n := n) (j := j) (b := b) (B := B) (bare := bare) (by omega) hB (shM [(tMem t, 0)]) n [(tMem t, 0)] i1 (sv (sv a1 26 0 (nI w)) 27 0 0) l1 (Nat.le_refl _) (by omega) ⟨⟨w, ⟨by show upd (a1 26) 0 (nI w) 0 = nI w; rw [upd_at], by omega⟩, rV_oR ho2 hB hv2⟩, by show upd (a1 27) 0 0 0 = nI 0; rw [upd_at]; rfl, by omega, by rw [← t1]; show tNd t + 0 ≤ 1201; omega, trivial⟩ htx (by omega)
      refine ⟨i3, a3, ?_, z2, oR_trans ho2 z3⟩
      unfold m_Model_show_b28
      rw [r_whatL (by omega), ob0_s, show (0 : Int32) = nI 0 from rfl, ck_n (by decide), ob1_s, cl_n (by decide), ck_n (by decide), ob1_s]
      exact z1
    cases bare with
    | true =>
      obtain ⟨i', a', z1, z2, z3⟩ := loop (upd i 25 0) a [] ho0 h0 (by decide)
      refine ⟨i', a', ?_, ?_, z3⟩
      · rw [b1_t, if_neg (by decide), if_neg (by decide)]
        exact z1
      · rw [hO, if_pos rfl, List.append_nil, List.nil_append] at z2
        exact z2
    | false =>
      obtain ⟨e1, e2, e3⟩ := r_say (n := n) (i := upd i 25 0) (a := a) (j := j) (b := b) (l := []) (c := 91) h0 (by decide) (by omega)
      obtain ⟨i', a', z1, z2, z3⟩ := loop _ _ [91] (oR_trans ho0 (oS_oR e3)) e2 (by decide)
      refine ⟨i', a', ?_, ?_, z3⟩
      · rw [b1_t, if_neg (by decide), b1_f, if_pos (show nI 0 = (0 : Int32) from rfl)]
        show om (m_Model_say n (upd i 25 0) j a b (nI 91)) _ = _
        rw [e1, om_s]
        exact z1
      · rw [hO, if_neg (by decide)] at z2
        show TR i' a' (aSh t 0)
        rw [e0]
        exact z2

