/-! the reference compares values -/
theorem updL_at {f : Nat → Int64} {k : Nat} {x : Int64} : vp_updL f k x k = x := by unfold vp_updL; rw [if_pos rfl]
theorem updL_ne {f : Nat → Int64} {k q : Nat} {x : Int64} (h : q ≠ k) : vp_updL f k x q = f q := by unfold vp_updL; rw [if_neg h]
theorem updB_ne {b : Nat → Nat → Int64} {k q : Nat} {f : Nat → Int64} (h : q ≠ k) : updB b k f q = b q := by unfold updB; rw [if_neg h]
def oB (b b' : Nat → Nat → Int64) : Prop := ∀ q, q ≠ 22 → q ≠ 23 → b' q = b q
theorem oB_trans {b b' b2 : Nat → Nat → Int64} (h : oB b b') (h' : oB b' b2) : oB b b2 := fun q h1 h2 => (h' q h1 h2).trans (h q h1 h2)
theorem rV_b {a : Nat → Nat → Int32} {b b' : Nat → Nat → Int64} {B : RB4} {t : Tr} {v : Int64} (hb : b' 10 = b 10) (hB : B.1 ≤ 120000 ∧ B.2.1 ≤ 300000 ∧ B.2.2.1 ≤ 90000 ∧ B.2.2.2 ≤ 90000) (h : rV a b B t none v) : rV a b' B t none v :=
  (rV_up ⟨⟨Nat.le_refl _, hB.1, Nat.le_refl _, hB.2.1, Nat.le_refl _, hB.2.2.1, Nat.le_refl _, hB.2.2.2⟩, fun _ _ => ⟨rfl, rfl⟩, fun _ _ => rfl, fun _ _ => ⟨rfl, rfl, rfl⟩, fun _ _ => by rw [hb]⟩ t).1 v h
def eqP (a : Nat → Nat → Int32) (b : Nat → Nat → Int64) (B : RB4) (f2 f3 : Nat → Int64) : List (Tr × Tr) → Prop
  | [] => True
  | (t, u) :: st => rV a b B t none (f2 st.length) ∧ rV a b B u none (f3 st.length) ∧ eqP a b B f2 f3 st
theorem eqP_keep {a : Nat → Nat → Int32} {b b' : Nat → Nat → Int64} {B : RB4} {f2 f3 f2' f3' : Nat → Int64} (hb : b' 10 = b 10) (hB : B.1 ≤ 120000 ∧ B.2.1 ≤ 300000 ∧ B.2.2.1 ≤ 90000 ∧ B.2.2.2 ≤ 90000) : ∀ (st : List (Tr × Tr)), (∀ j, j < st.length → f2' j = f2 j ∧ f3' j = f3 j) → eqP a b B f2 f3 st → eqP a b' B f2' f3' st := by
  intro st
  induction st with
  | nil => intro _ _; trivial
  | cons q st ih =>
    obtain ⟨t, u⟩ := q
    intro hj h
    obtain ⟨h1, h2, h3⟩ := h
    obtain ⟨e1, e3⟩ := hj st.length (by simp)
    exact ⟨by rw [e1]; exact rV_b hb hB h1, by rw [e3]; exact rV_b hb hB h2, ih (fun j hj' => hj j (by simp; omega)) h3⟩
def ndS (st : List (Tr × Tr)) : Nat := (st.map (fun p => tNd p.1)).sum
theorem r_nd {a : Nat → Nat → Int32} {b : Nat → Nat → Int64} {B : RB4} {t : Tr} {v : Int64} (h : rV a b B t none v) : 1 ≤ tNd t := by
  rcases rV_cases h with ⟨k, rfl, _⟩ | ⟨l, w, rfl, _, h3⟩ | ⟨ms, l, p, rfl, _⟩
  · exact Nat.le_refl 1
  · cases l with
    | nil => exact absurd rfl h3.2.2.2.1
    | cons c l => exact Nat.le_refl 1
  · rw [tNd_tL]; omega
theorem eqP_len {a : Nat → Nat → Int32} {b : Nat → Nat → Int64} {B : RB4} {f2 f3 : Nat → Int64} : ∀ (st : List (Tr × Tr)), eqP a b B f2 f3 st → st.length ≤ ndS st := by
  intro st
  induction st with
  | nil => intro _; exact Nat.le_refl 0
  | cons q st ih =>
    obtain ⟨t, u⟩ := q
    intro h
    have := ih h.2.2
    have := r_nd h.1
    show st.length + 1 ≤ tNd t + ndS st
    omega
theorem nd_len : ∀ (ms : List Tr), (∀ k (h : k < ms.length), 1 ≤ tNd (ms[k]'h)) → ms.length ≤ (ms.map tNd).sum := by
  intro ms
  induction ms with
  | nil => intro _; exact Nat.le_refl 0
  | cons m ms ih =>
    intro h
    have h1 := h 0 (by simp)
    have h2 := ih (fun k hk => h (k + 1) (by simp; omega))
    have h1 : 1 ≤ tNd m := h1
    show ms.length + 1 ≤ tNd m + (ms.map tNd).sum
    omega
def pz : List Tr → List Tr → List (Tr × Tr) → List (Tr × Tr)
  | m :: ms, u :: us, S => pz ms us ((m, u) :: S)
  | _, _, S => S
theorem pz_sum : ∀ (ms us : List Tr) (S : List (Tr × Tr)), ms.length = us.length → ndS (pz ms us S) = (ms.map tNd).sum + ndS S := by
  intro ms
  induction ms with
  | nil =>
    intro us S _
    show ndS S = 0 + _
    omega
  | cons m ms ih =>
    intro us S h
    cases us with
    | nil => cases h
    | cons u us =>
      show ndS (pz ms us ((m, u) :: S)) = tNd m + (ms.map tNd).sum + ndS S
      rw [ih us _ (by simp at h; exact h)]
      show _ + (tNd m + ndS S) = _
      omega
theorem pz_all : ∀ (ms us : List Tr) (S : List (Tr × Tr)), ms.length = us.length → ((∀ p ∈ pz ms us S, p.1 = p.2) ↔ (ms = us ∧ ∀ p ∈ S, p.1 = p.2)) := by
  intro ms
  induction ms with
  | nil =>
    intro us S h
    cases us with
    | nil => exact ⟨fun h => ⟨rfl, h⟩, fun h => h.2⟩
    | cons u us => cases h
  | cons m ms ih =>
    intro us S h
    cases us with
    | nil => cases h
    | cons u us =>
      show (∀ p ∈ pz ms us ((m, u) :: S), p.1 = p.2) ↔ _
      rw [ih us _ (by simp at h; exact h)]
      constructor
      · rintro ⟨h1, h2⟩
        have h3 : m = u := h2 (m, u) (List.mem_cons_self)
        exact ⟨by rw [h1, h3], fun p hp => h2 p (List.mem_cons_of_mem _ hp)⟩
      · rintro ⟨h1, h2⟩
        injection h1 with h3 h4
        refine ⟨h4, fun p hp => ?_⟩
        rcases List.mem_cons.mp hp with e | e
        · rw [e]; exact h3
        · exact h2 p e
theorem dec_iff {p q : Prop} (h : p ↔ q) : dec p = dec q := by
  rcases Classical.em p with c | c
  · rw [dec_t c, dec_t (h.mp c)]
  · rw [dec_f c, dec_f (fun e => c (h.mpr e))]
theorem dec_cons {t u : Tr} {S : List (Tr × Tr)} : dec (∀ p ∈ (t, u) :: S, p.1 = p.2) = (dec (t = u) && dec (∀ p ∈ S, p.1 = p.2)) := by
  rcases Classical.em (t = u) with c | c
  · rw [dec_t c, Bool.true_and]
    refine dec_iff ⟨fun h p hp => h p (List.mem_cons_of_mem _ hp), fun h p hp => ?_⟩
    rcases List.mem_cons.mp hp with e | e
    · rw [e]; exact c
    · exact h p e
  · rw [dec_f c, Bool.false_and, dec_f (fun h => c (h (t, u) List.mem_cons_self))]
/-- the members, pair by pair -/
theorem r_eqpush {n : Nat} {rc : (Nat → Int32) → (Nat → Int64) → (Nat → Nat → Int32) → (Nat → Nat → Int64) → Int32 → Option ((Nat → Int32) × (Nat → Int64) × (Nat → Nat → Int32) × (Nat → Nat → Int64) × Int32)} {i : Nat → Int32} {j : Nat → Int64} {a : Nat → Nat → Int32} {b0 : Nat → Nat → Int64} {B : RB4} {ms us : List Tr} {x y : Int64} (hB : B.1 ≤ 120000 ∧ B.2.1 ≤ 300000 ∧ B.2.2.1 ≤ 90000 ∧ B.2.2.2 ≤ 90000) (hv : rV a b0 B (tL ms) none x) (hu : rV a b0 B (tL us) none y) (hlen : ms.length = us.length) : ∀ (m k f : Nat) (b : Nat → Nat → Int64) (S : List (Tr × Tr)), ms.length = k + m → m < f → oB b0 b → eqP a b0 B (b 22) (b 23) S → S.length + m ≤ 1300 → ∃ b', m_Model_equal_b148 n rc f i j a b (nI S.length) x y (nI k) = rc i j a b' (nI (pz (ms.drop k) (us.drop k) S).length) ∧ oB b0 b' ∧ eqP a b0 B (b' 22) (b' 23) (pz (ms.drop k) (us.drop k) S) := by
  have hc : ms.length ≤ 90000 := by
    obtain ⟨l, p, _, h3, _⟩ := rV_tL.mp hv
    have := h3.2.2.2.2.2.2.1
    omega
  intro m
  induction m with
  | zero =>
    intro k f b S e hf ho hS hl
    obtain ⟨f, rfl⟩ : ∃ f', f = f' + 1 := ⟨f - 1, by omega⟩
    have hv' := rV_b (ho 10 (by decide) (by decide)) hB hv
    obtain ⟨_, _, kl⟩ := r_kinds n hv'
    have e0 : pz (ms.drop k) (us.drop k) S = S := by
      rw [List.drop_of_length_le (by omega)]
      unfold pz
      rfl
    rw [e0]
    refine ⟨b, ?_, ho, hS⟩
    rw [m_Model_equal_b148, kl, ob0_s, isL_tL, b1_t, if_neg (show ¬ nI 1 = (0 : Int32) by decide), r_size hv', ob0_s, ile_p (by omega)]
    rfl
  | succ m ih =>
    intro k f b S e hf ho hS hl
    obtain ⟨f, rfl⟩ : ∃ f', f = f' + 1 := ⟨f - 1, by omega⟩
    have hk : k < ms.length := by omega
    have hk2 : k < us.length := by omega
    have hv' := rV_b (ho 10 (by decide) (by decide)) hB hv
    obtain ⟨_, _, kl⟩ := r_kinds n hv'
    obtain ⟨z, p1, p2⟩ := r_member (n := n) (i := i) (j := j) hv' hk
    have hu' := rV_b (b' := svl b 22 S.length z) (ho 10 (by decide) (by decide)) hB hu
    obtain ⟨z2, p3, p4⟩ := r_member (n := n) (i := i) (j := j) hu' hk2
    have e1 : (ho 10 (by decide) (by decide)).symm = (ho 10 (by decide) (by decide)).symm := rfl
    have ho2 : oB b0 (svl (svl b 22 S.length z) 23 S.length z2) := fun q h1 h2 => by
      show updB _ 23 _ q = _
      rw [updB_ne h2]
      show updB _ 22 _ q = _
      rw [updB_ne h1]
      exact ho q h1 h2
    obtain ⟨b', z4, z5, z6⟩ := ih (k + 1) f (svl (svl b 22 S.length z) 23 S.length z2) ((ms[k], us[k]) :: S) (by omega) (by omega) ho2 ⟨by
        show rV a b0 B ms[k] none (vp_updL (b 22) S.length z S.length)
        rw [updL_at]; exact rV_b (ho 10 (by decide) (by decide)).symm hB p2, by
        show rV a b0 B us[k] none (vp_updL (b 23) S.length z2 S.length)
        rw [updL_at]; exact rV_b (b := svl b 22 S.length z) (ho 10 (by decide) (by decide)).symm hB p4, eqP_keep (b := b0) rfl hB S (fun j hj => ⟨by
        show vp_updL (b 22) S.length z j = _
        exact updL_ne (by omega), by
        show vp_updL (b 23) S.length z2 j = _
        exact updL_ne (by omega)⟩) hS⟩ (by rw [List.length_cons]; omega)
    have ed : pz (ms.drop k) (us.drop k) S = pz (ms.drop (k + 1)) (us.drop (k + 1)) ((ms[k], us[k]) :: S) := by
      rw [List.drop_eq_getElem_cons hk, List.drop_eq_getElem_cons hk2]
      rfl
    rw [ed]
    refine ⟨b', ?_, z5, z6⟩
    rw [m_Model_equal_b148, kl, ob0_s, isL_tL, b1_t, if_neg (show ¬ nI 1 = (0 : Int32) by decide), r_size hv', ob0_s, ile_n (by omega), p1, ob0_s, ck_n (by omega), ob1_s, cl_n (by omega), p3, ob0_s, ck_n (by omega), ob1_s, ob1_s, ob1_s, show (1 : Int32) = nI 1 from rfl, nI_add, nI_add]
    exact z4
def kd (t : Tr) : Nat := if isN t then 0 else if isW t then 1 else 2
theorem kd_tN (z : Int) : kd (tN z) = 0 := rfl
theorem kd_tW {l : List Nat} (h : l ≠ []) : kd (tW l) = 1 := by
  cases l with
  | nil => exact absurd rfl h
  | cons c l => rfl
theorem kd_tL (l : List Tr) : kd (tL l) = 2 := by cases l <;> rfl
theorem r_kd {a : Nat → Nat → Int32} {b : Nat → Nat → Int64} {B : RB4} {t : Tr} {v : Int64} (n : Nat) (h : rV a b B t none v) : m_Model_kindOf n v = some (nI (kd t)) ∧ kd t < 3 := by
  rcases rV_cases h with ⟨k, rfl, _, _, rfl⟩ | ⟨l, w, rfl, rfl, h3⟩ | ⟨ms, l, p, rfl, rfl, h3, h4⟩
  · unfold vN; rw [r_kind, kN, kd_tN]; exact ⟨rfl, by decide⟩
  · unfold vW; rw [r_kind, kW, kd_tW h3.2.2.2.1]; exact ⟨rfl, by decide⟩
  · unfold vL; rw [r_kind, kL, kd_tL]; exact ⟨rfl, by decide⟩
theorem r_eq_flat {n : Nat} {rc : (Nat → Int32) → (Nat → Int64) → (Nat → Nat → Int32) → (Nat → Nat → Int64) → Int32 → Option ((Nat → Int32) × (Nat → Int64) × (Nat → Nat → Int32) × (Nat → Nat → Int64) × Int32)} {i : Nat → Int32} {j : Nat → Int64} {a : Nat → Nat → Int32} {b : Nat → Nat → Int64} {v5 : Int32} {x y : Int64} (hn : 1 ≤ n) (h : m_Model_isList n x = some 0) : m_Model_equal_b97 n rc i j a b v5 x y = rc i j a b v5 := by
  obtain ⟨f, rfl⟩ : ∃ f, n = f + 1 := ⟨n - 1, by omega⟩
  unfold m_Model_equal_b97
  rw [h, ob0_s, if_pos rfl]
  unfold m_Model_equal_b145
  rw [m_Model_equal_b148, h, ob0_s, if_pos rfl]
  rfl
theorem r_equal_b {n : Nat} {i : Nat → Int32} {j : Nat → Int64} {a : Nat → Nat → Int32} {B : RB4} (hn : 2000 ≤ n) (hB : B.1 ≤ 120000 ∧ B.2.1 ≤ 300000 ∧ B.2.2.1 ≤ 90000 ∧ B.2.2.2 ≤ 90000) : ∀ (m q : Nat) (st : List (Tr × Tr)) (b : Nat → Nat → Int64), ndS st ≤ m → m < q → ndS st ≤ 1201 → eqP a b B (b 22) (b 23) st → ∃ b', m_Model_equal_b17 n q i j a b (nI st.length) = some (i, j, a, b', b1 (dec (∀ p ∈ st, p.1 = p.2))) ∧ oB b b' := by
  intro m
  induction m with
  | zero =>
    intro q st b h1 h2 h3 hr
    obtain ⟨q, rfl⟩ : ∃ q', q = q' + 1 := ⟨q - 1, by omega⟩
    cases st with
    | nil =>
      refine ⟨b, ?_, fun _ _ _ => rfl⟩
      rw [m_Model_equal_b17, if_pos (by decide), dec_t (fun p hp => absurd hp List.not_mem_nil)]
      rfl
    | cons x st =>
      have := eqP_len _ hr
      rw [List.length_cons] at this
      omega
  | succ m ih =>
    intro q st b h1 h2 h3 hr
    obtain ⟨q, rfl⟩ : ∃ q', q = q' + 1 := ⟨q - 1, by omega⟩
    cases st with
    | nil =>
      refine ⟨b, ?_, fun _ _ _ => rfl⟩
      rw [m_Model_equal_b17, if_pos (by decide), dec_t (fun p hp => absurd hp List.not_mem_nil)]
      rfl
    | cons x st =>
      obtain ⟨t, u⟩ := x
      have hln := eqP_len _ hr
      rw [List.length_cons] at hln
      obtain ⟨r1, r2, r3⟩ := hr
      have hsum : ndS ((t, u) :: st) = tNd t + ndS st := rfl
      have hnd := r_nd r1
      obtain ⟨k1, k2⟩ := r_kd n r1
      obtain ⟨k3, k4⟩ := r_kd n r2
      have hneg : nI (st.length + 1) + -1 = nI st.length := by
        show nI (st.length + 1) + -nI 1 = nI st.length
        rw [← Int32.sub_eq_add_neg, sub_n (by omega), show st.length + 1 - 1 = st.length by omega]
      rw [List.length_cons, m_Model_equal_b17, if_neg (show ¬ nI (st.length + 1) ≤ (0 : Int32) from nI_nle (by omega) (by omega)), ob1_s, hneg, ck_n (by omega), ob1_s, cl_n (by omega), ck_n (by omega), ob1_s, k1, ob0_s, k3, ob0_s]
      have no : t ≠ u → ∃ b', (some (i, j, a, b, (0 : Int32)) : Option ((Nat → Int32) × (Nat → Int64) × (Nat → Nat → Int32) × (Nat → Nat → Int64) × Int32)) = some (i, j, a, b', b1 (dec (∀ p ∈ (t, u) :: st, p.1 = p.2))) ∧ oB b b' := fun c => by
        refine ⟨b, ?_, fun _ _ _ => rfl⟩
        rw [dec_cons, dec_f c, Bool.false_and]
        rfl
      have yes : t = u → ∃ b', m_Model_equal_b17 n q i j a b (nI st.length) = some (i, j, a, b', b1 (dec (∀ p ∈ (t, u) :: st, p.1 = p.2))) ∧ oB b b' := fun c => by
        rw [dec_cons, dec_t c, Bool.true_and]
        exact ih q st b (by omega) (by omega) (by omega) r3
      rcases Classical.em (kd t = kd u) with ck | ck
      · rw [ieq_p ck]
        generalize hx : b 22 st.length = x at r1 ⊢
        generalize hy : b 23 st.length = y at r2 ⊢
        rcases rV_cases r1 with ⟨k, rfl, a1, a2, rfl⟩ | ⟨l, w, rfl, rfl, a3⟩ | ⟨ms, l, p, rfl, rfl, a3, a4⟩
        · rcases rV_cases r2 with ⟨k', rfl, c1, c2, rfl⟩ | ⟨l', w', rfl, rfl, c3⟩ | ⟨ms', l', p', rfl, rfl, c3, c4⟩
          · obtain ⟨n1, n2, n3⟩ := r_isN n k
            rw [n1, ob0_s, if_neg (show ¬ (1 : Int32) = 0 by decide)]
            have hlg : (lg_cmp (vN k) (vN k') = 0) ↔ 4 * k = 4 * k' := lg_eq (by omega) (by omega)
            rcases Classical.em (k = k') with e | e
            · rw [if_pos (hlg.mpr (by omega))]
              unfold m_Model_equal_b72
              rw [n2, ob0_s, if_pos rfl, r_eq_flat (by omega) n3]
              exact yes (by rw [e])
            · rw [if_neg (fun h => e (by have := hlg.mp h; omega))]
              exact no (fun h => e (tN_inj h))
          · rw [kd_tN, kd_tW c3.2.2.2.1] at ck; omega
          · rw [kd_tN, kd_tL] at ck; omega
        · rcases rV_cases r2 with ⟨k', rfl, c1, c2, rfl⟩ | ⟨l', w', rfl, rfl, c3⟩ | ⟨ms', l', p', rfl, rfl, c3, c4⟩
          · rw [kd_tN, kd_tW a3.2.2.2.1] at ck; omega
          · obtain ⟨n1, n2, n3⟩ := r_isW n w
            have b1' := a3.1
            have b2' := a3.2.1
            have b3' := c3.1
            rw [n1, ob0_s, if_pos rfl]
            unfold m_Model_equal_b72
            rw [n2, ob0_s, if_neg (show ¬ (1 : Int32) = 0 by decide), r_whatW (by omega), ob0_s, r_whatW (by omega), ob0_s, r_sameWord (by omega) a3 c3, ob0_s]
            rcases Classical.em (l = l') with e | e
            · rw [decide_eq_true e, b1_t, if_neg (show ¬ nI 1 = (0 : Int32) by decide), r_eq_flat (by omega) n3]
              exact yes (by rw [e])
            · rw [decide_eq_false e, b1_f, if_pos (show nI 0 = (0 : Int32) from rfl)]
              exact no (fun h => e (tW_inj h))
          · rw [kd_tL, kd_tW a3.2.2.2.1] at ck; omega
        · rcases rV_cases r2 with ⟨k', rfl, c1, c2, rfl⟩ | ⟨l', w', rfl, rfl, c3⟩ | ⟨ms', l', p', rfl, rfl, c3, c4⟩
          · rw [kd_tN, kd_tL] at ck; omega
          · rw [kd_tL, kd_tW c3.2.2.2.1] at ck; omega
          · obtain ⟨n1, n2, n3⟩ := r_isL n l
            have b1' := a3.1
            have b2' := a3.2.1
            have b3' := c3.1
            have b4' := a3.2.2.2.2.2.2.1
            have b5' := c3.2.2.2.2.2.2.1
            have b6' := a3.2.2.1
            have b7' := a3.2.2.2.2.2.2.2.1
            have b8' := c3.2.2.2.2.2.2.2.1
            rw [n1, ob0_s, if_pos rfl]
            unfold m_Model_equal_b72
            rw [n2, ob0_s, if_pos rfl]
            unfold m_Model_equal_b97
            rw [n3, ob0_s, if_neg (show ¬ (1 : Int32) = 0 by decide), r_size r1, ob0_s, r_size r2, ob0_s]
            rcases Classical.em (ms.length = ms'.length) with e | e
            · rw [ieq_p e, r_whatL (by omega), ob0_s, ck_n (by omega), r_whatL (by omega), ob0_s, ck_n (by omega), cl_n (by omega), cl_n (by omega), a3.2.2.2.2.2.1, c3.2.2.2.2.2.1]
              rcases Classical.em (tSz (tL ms) = tSz (tL ms')) with e2 | e2
              · rw [ieq_p e2]
                unfold m_Model_equal_b145
                have hml : ms.length ≤ (ms.map tNd).sum := nd_len ms (fun k hk => r_nd (a4 k hk))
                have hsum2 : 1 + (ms.map tNd).sum + ndS st ≤ 1201 := by
                  have e9 := tNd_tL ms
                  have e8 : ndS ((tL ms, tL ms') :: st) = tNd (tL ms) + ndS st := hsum
                  rw [← e9, ← e8]; exact h3
                have hsum3 : 1 + (ms.map tNd).sum + ndS st ≤ m + 1 := by
                  have e9 := tNd_tL ms
                  have e8 : ndS ((tL ms, tL ms') :: st) = tNd (tL ms) + ndS st := hsum
                  rw [← e9, ← e8]; exact h1
                have hst : st.length ≤ ndS st := eqP_len _ r3
                obtain ⟨b', z1, z2, z3⟩ := r_eqpush (n := n) (rc := m_Model_equal_b17 n q) (i := i) (j := j) hB r1 r2 e ms.length 0 n b st (by omega) (by omega) (fun _ _ _ => rfl) r3 (by omega)
                rw [List.drop_zero, List.drop_zero] at z1 z3
                have hps := pz_sum ms ms' st e
                obtain ⟨b2, y1, y2⟩ := ih q (pz ms ms' st) b' (by omega) (by omega) (by omega) (eqP_keep (z2 10 (by decide) (by decide)) hB _ (fun _ _ => ⟨rfl, rfl⟩) z3)
                refine ⟨b2, ?_, oB_trans z2 y2⟩
                rw [show (0 : Int32) = nI 0 from rfl, z1, y1]
                have ed : dec (∀ p ∈ pz ms ms' st, p.1 = p.2) = dec (∀ p ∈ (tL ms, tL ms') :: st, p.1 = p.2) := by
                  rw [dec_iff (pz_all ms ms' st e), dec_cons]
                  rcases Classical.em (ms = ms') with c | c
                  · rw [dec_t (show tL ms = tL ms' by rw [c]), Bool.true_and]
                    exact dec_iff ⟨fun h => h.2, fun h => ⟨c, h⟩⟩
                  · rw [dec_f (fun h => c (tL_inj h)), Bool.false_and, dec_f (fun h => c h.1)]
                rw [ed]
              · rw [ieq_n ⟨e2, by omega, by omega⟩]
                exact no (fun h => e2 (by rw [h]))
            · rw [ieq_n ⟨e, by omega, by omega⟩]
              exact no (fun h => e (by rw [tL_inj h]))
      · rw [ieq_n ⟨ck, by omega, by omega⟩]
        exact no (fun h => ck (by rw [h]))
theorem r_equal {n : Nat} {i : Nat → Int32} {j : Nat → Int64} {a : Nat → Nat → Int32} {b : Nat → Nat → Int64} {B : RB4} {t u : Tr} {x y : Int64} (hn : 2000 ≤ n) (hB : B.1 ≤ 120000 ∧ B.2.1 ≤ 300000 ∧ B.2.2.1 ≤ 90000 ∧ B.2.2.2 ≤ 90000) (h : rV a b B t none x) (h' : rV a b B u none y) : ∃ b', m_Model_equal n i j a b x y = some (i, j, a, b', b1 (dec (t = u))) ∧ oB b b' := by
  have ho : oB b (svl (svl b 22 0 x) 23 0 y) := fun q h1 h2 => by
    show updB _ 23 _ q = _
    rw [updB_ne h2]
    show updB _ 22 _ q = _
    rw [updB_ne h1]
  have hnd : tNd t ≤ 1200 := by
    rcases rV_cases h with ⟨k, rfl, _⟩ | ⟨l, w, rfl, _, h3⟩ | ⟨ms, l, p, rfl, _, h3, _⟩
    · show 1 ≤ 1200; decide
    · cases l with
      | nil => exact absurd rfl h3.2.2.2.1
      | cons c l => show 1 ≤ 1200; decide
    · exact h3.2.2.2.2.2.2.2.2.1
  have hs : ndS [(t, u)] = tNd t + 0 := rfl
  obtain ⟨b', z1, z2⟩ := r_equal_b (n := n) (i := i) (j := j) (a := a) (B := B) hn hB (ndS [(t, u)]) n [(t, u)] (svl (svl b 22 0 x) 23 0 y) (Nat.le_refl _) (by omega) (by omega) ⟨by
    show rV _ _ _ _ _ (vp_updL (b 22) 0 x 0)
    rw [updL_at]; exact rV_b (ho 10 (by decide) (by decide)) hB h, by
    show rV _ _ _ _ _ (vp_updL (b 23) 0 y 0)
    rw [updL_at]; exact rV_b (ho 10 (by decide) (by decide)) hB h', trivial⟩
  refine ⟨b', ?_, oB_trans ho z2⟩
  rw [dec_cons, dec_t (p := ∀ p ∈ ([] : List (Tr × Tr)), p.1 = p.2) (fun p hp => absurd hp List.not_mem_nil), Bool.and_true] at z1
  unfold m_Model_equal
  rw [show (0 : Int32) = nI 0 from rfl, ck_n (by decide), ob1_s, cl_n (by decide), ck_n (by decide), ob1_s]
  exact z1

