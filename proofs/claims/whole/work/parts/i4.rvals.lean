/-! words that make lists, in the reference -/
theorem om_eta {α β γ δ ε : Type} (x : Option (α × β × γ × δ × ε)) : om x (fun a b c d e => some (a, b, c, d, e)) = x := by
  cases x with
  | none => rfl
  | some x => obtain ⟨a, b, c, d, e⟩ := x; rfl
theorem r_vfrom {n : Nat} {i0 : Nat → Int32} {b0 : Nat → Nat → Int64} {j : Nat → Int64} {a : Nat → Nat → Int32} {B : RB4} {ms : List Tr} {v : Int64} {c lim : Nat} {x1 : Int32} (hB : B.1 ≤ 120000 ∧ B.2.1 ≤ 300000 ∧ B.2.2.1 ≤ 90000 ∧ B.2.2.2 ≤ 90000) (hv : rV a b0 B (tL ms) none v) (hc : (c = 39 ∧ lim = ms.length) ∨ (c = 40 ∧ lim + 1 = ms.length)) : ∀ (m k f : Nat) (i : Nat → Int32) (b : Nat → Nat → Int64) (l : List Tr), k + m = lim → m < f → PUT i0 i a b0 b B l → B.2.2.2 + l.length + m ≤ 90000 → ∃ i' b', m_Model_values_b294 n f i j a b (nI c) v x1 (nI k) = m_Model_listed n i' j a b' x1 ∧ PUT i0 i' a b0 b' B (l ++ (ms.take lim).drop k) := by
  have hcl : ms.length ≤ 90000 := by
    obtain ⟨l, p, _, h3, _⟩ := rV_tL.mp hv
    have := h3.2.2.2.2.2.2.1
    omega
  have hlim : lim ≤ ms.length := by omega
  have step : ∀ (k f : Nat) (i : Nat → Int32) (b : Nat → Nat → Int64), rV a b B (tL ms) none v → k ≤ lim → m_Model_values_b294 n (f + 1) i j a b (nI c) v x1 (nI k) = if lim ≤ k then m_Model_listed n i j a b x1 else ob0 (m_Model_member n i j a b v (nI k)) (fun r_9 => om (m_Model_put n i j a b r_9) (fun i_11 j_12 a_13 b_14 r_15 => ob1 (nI k + 1 : Int32) (fun x_16 => m_Model_values_b294 n f i_11 j_12 a_13 b_14 (nI c) v x1 x_16))) := by
    intro k f i b hv' hk
    rw [m_Model_values_b294, r_size hv', ob0_s]
    rcases hc with ⟨rfl, hl⟩ | ⟨rfl, hl⟩
    · rw [if_neg (show ¬ nI 39 = (40 : Int32) by decide)]
      unfold m_Model_values_b312
      rw [show (0 : Int32) = nI 0 from rfl, sub_n (by omega), Nat.sub_zero, om_eta]
      rcases Nat.lt_or_ge k ms.length with d | d
      · rw [ile_n (by omega), if_neg (by omega)]
      · rw [ile_p (by omega), if_pos (by omega)]
    · rw [if_pos (show nI 40 = (40 : Int32) from rfl)]
      unfold m_Model_values_b312
      rw [show (1 : Int32) = nI 1 from rfl, sub_n (by omega), show ms.length - 1 = lim by omega, om_eta]
      rcases Nat.lt_or_ge k lim with d | d
      · rw [ile_n (by omega), if_neg (by omega)]
      · rw [ile_p (by omega), if_pos (by omega)]
  intro m
  induction m with
  | zero =>
    intro k f i b l e hf h hr
    obtain ⟨f, rfl⟩ : ∃ f', f = f' + 1 := ⟨f - 1, by omega⟩
    have hv' := (rV_up (PUT_up hB h).1 _).1 _ hv
    refine ⟨i, b, ?_, ?_⟩
    · rw [step k f i b hv' (by omega), if_pos (by omega)]
    · rw [List.drop_of_length_le (by rw [List.length_take]; omega), List.append_nil]
      exact h
  | succ m ih =>
    intro k f i b l e hf h hr
    obtain ⟨f, rfl⟩ : ∃ f', f = f' + 1 := ⟨f - 1, by omega⟩
    have hv' := (rV_up (PUT_up hB h).1 _).1 _ hv
    have hk : k < ms.length := by omega
    obtain ⟨z, p1, p2⟩ := r_member (n := n) (i := i) (j := j) hv' hk
    obtain ⟨i1, b1, q1, q2⟩ := r_put1 (n := n) (j := j) h (by omega) ((rV_up (PUT_up hB h).2 _).1 _ p2)
    obtain ⟨i2, b2, z1, z2⟩ := ih (k + 1) f i1 b1 _ (by omega) (by omega) q2 (by rw [List.length_append, List.length_singleton]; omega)
    refine ⟨i2, b2, ?_, ?_⟩
    · rw [step k f i b hv' (by omega), if_neg (by omega), p1, ob0_s, q1, om_s, ob1_s, show (1 : Int32) = nI 1 from rfl, nI_add]
      exact z1
    · rw [List.append_assoc] at z2
      have hk2 : k < (ms.take lim).length := by rw [List.length_take]; omega
      rw [List.drop_eq_getElem_cons hk2, List.getElem_take]
      exact z2
theorem r_vback {n : Nat} {i0 : Nat → Int32} {b0 : Nat → Nat → Int64} {j : Nat → Int64} {a : Nat → Nat → Int32} {B : RB4} {ms : List Tr} {v : Int64} {x1 : Int32} (hB : B.1 ≤ 120000 ∧ B.2.1 ≤ 300000 ∧ B.2.2.1 ≤ 90000 ∧ B.2.2.2 ≤ 90000) (hv : rV a b0 B (tL ms) none v) : ∀ (k f : Nat) (i : Nat → Int32) (b : Nat → Nat → Int64) (l : List Tr), k ≤ ms.length → k < f → PUT i0 i a b0 b B l → B.2.2.2 + l.length + k ≤ 90000 → ∃ i' b', m_Model_values_b421 n f i j a b v x1 (nI k + -1) = m_Model_listed n i' j a b' x1 ∧ PUT i0 i' a b0 b' B (l ++ (ms.take k).reverse) := by
  have hcl : ms.length ≤ 90000 := by
    obtain ⟨l, p, _, h3, _⟩ := rV_tL.mp hv
    have := h3.2.2.2.2.2.2.1
    omega
  intro k
  induction k with
  | zero =>
    intro f i b l hk hf h hr
    obtain ⟨f, rfl⟩ : ∃ f', f = f' + 1 := ⟨f - 1, by omega⟩
    refine ⟨i, b, ?_, by rw [List.take_zero, List.reverse_nil, List.append_nil]; exact h⟩
    rw [m_Model_values_b421, if_pos (by decide), om_eta]
  | succ k ih =>
    intro f i b l hk hf h hr
    obtain ⟨f, rfl⟩ : ∃ f', f = f' + 1 := ⟨f - 1, by omega⟩
    have hneg : nI (k + 1) + -1 = nI k := by
      show nI (k + 1) + -nI 1 = nI k
      rw [← Int32.sub_eq_add_neg, sub_n (by omega), show k + 1 - 1 = k by omega]
    have hv' := (rV_up (PUT_up hB h).1 _).1 _ hv
    have hk' : k < ms.length := by omega
    obtain ⟨z, p1, p2⟩ := r_member (n := n) (i := i) (j := j) hv' hk'
    obtain ⟨i1, b1, q1, q2⟩ := r_put1 (n := n) (j := j) h (by omega) ((rV_up (PUT_up hB h).2 _).1 _ p2)
    obtain ⟨i2, b2, z1, z2⟩ := ih f i1 b1 _ (by omega) (by omega) q2 (by rw [List.length_append, List.length_singleton]; omega)
    refine ⟨i2, b2, ?_, ?_⟩
    · rw [m_Model_values_b421, hneg, show (0 : Int32) = nI 0 from rfl, ilt_n (by omega), p1, ob0_s, q1, om_s, ob1_s]
      exact z1
    · rw [List.append_assoc] at z2
      rw [List.take_succ_eq_append_getElem hk', List.reverse_append]
      exact z2
/-- what a word that makes a list asks for -/
def vLst (code : Nat) (v u : Tr) : List Tr :=
  if code = 40 then (tMem v).tail
  else if code = 41 then (tMem v).dropLast
  else if code = 43 then v :: tMem u
  else if code = 44 then tMem u ++ [v]
  else if code = 45 then aSen v ++ aSen u
  else if code = 46 then [v, u]
  else (tMem v).reverse
theorem aSen_L (ms : List Tr) : aSen (tL ms) = ms := by unfold aSen; rw [isL_tL, tMem_tL]; rfl
theorem r_vlist {n : Nat} {i : Nat → Int32} {j : Nat → Int64} {a : Nat → Nat → Int32} {b : Nat → Nat → Int64} {B : RB4} {made code : Nat} {t u : Tr} {x y : Int64} (hn : 100000 ≤ n) (hi : rB i B) (hL : B.2.2.1 < 90000) (h96 : i 96 = nI made) (hm : made ≤ 30000) (ht : rV a b B t none x) (hu : rV a b B u none y) (hr : B.2.2.2 + 3000 ≤ 90000)
    (hc : ((code = 40 ∨ code = 41) ∧ isL t = true ∧ tMem t ≠ []) ∨ ((code = 43 ∨ code = 44) ∧ isL u = true) ∨ code = 45 ∨ code = 46 ∨ (code = 48 ∧ isL t = true)) : LST i j a b B made (vLst code t u) (m_Model_values n i j a b (nI (code - 1)) x y) := by
  obtain ⟨j1, j2, j3, j4, j5, j6, j7, j8⟩ := id hi
  have hB : B.1 ≤ 120000 ∧ B.2.1 ≤ 300000 ∧ B.2.2.1 ≤ 90000 ∧ B.2.2.2 ≤ 90000 := ⟨j5, j6, j7, j8⟩
  have h0 : PUT i i a b b B [] := PUT_nil j4 hB
  have hlen : ∀ ms w, rV a b B (tL ms) none w → ms.length ≤ 1200 := fun ms w h => by
    obtain ⟨l, p, _, hh, h4⟩ := rV_tL.mp h
    have h1 : tNd (tL ms) ≤ 1200 := hh.2.2.2.2.2.2.2.2.1
    rw [tNd_tL] at h1
    have h2 : ms.length ≤ (ms.map tNd).sum := by
      have key : ∀ (ls : List Tr), (∀ m ∈ ls, 1 ≤ tNd m) → ls.length ≤ (ls.map tNd).sum := by
        intro ls
        induction ls with
        | nil => intro _; exact Nat.le_refl 0
        | cons m ls ih =>
          intro h
          have h1 := h m List.mem_cons_self
          have h2 := ih (fun x hx => h x (List.mem_cons_of_mem _ hx))
          rw [List.map_cons, List.sum_cons, List.length_cons]
          omega
      refine key ms (fun m hm => ?_)
      obtain ⟨k, hk, rfl⟩ := List.getElem_of_mem hm
      exact ((tNd_le _).1 ((rV_ok _).1 _ (h4 k hk))).1
    omega
  have hsen : ∀ t w, rV a b B t none w → (aSen t).length ≤ 1200 := fun t w h => by
    cases hl : isL t with
    | false => unfold aSen; rw [hl]; exact (by decide : 1 ≤ 1200)
    | true =>
      have t1 := r_isL_eq h hl
      rw [t1] at h
      rw [t1, aSen_L]
      exact hlen _ _ h
  have fin : ∀ i' b' l, PUT i i' a b b' B l → LST i j a b B made l (m_Model_listed n i' j a b' (nI B.2.2.2)) := fun i' b' l h => r_listedP (by omega) hi hL h96 hm h
  unfold m_Model_values
  rw [ob1_s, j4]
  rcases hc with ⟨hc, hlt, hne⟩ | ⟨hc, hlu⟩ | rfl | rfl | ⟨rfl, hlt⟩
  · have t1 := r_isL_eq ht hlt
    rw [t1] at ht
    have hl5 := hlen _ _ ht
    have hpos : 0 < (tMem t).length := List.length_pos_iff.mpr hne
    rcases hc with rfl | rfl
    · obtain ⟨i1, b1, e1, e2⟩ := r_vfrom (n := n) (j := j) (c := 39) (x1 := nI B.2.2.2) hB ht (Or.inl ⟨rfl, rfl⟩) ((tMem t).length - 1) 1 n i b [] (by omega) (by omega) h0 (by rw [List.length_nil]; omega)
      rw [List.take_length, List.nil_append, List.drop_one] at e2
      show LST i j a b B made (tMem t).tail _
      rw [if_neg (by decide), if_neg (by decide), if_neg (by decide), if_neg (by decide), if_neg (by decide), if_neg (by decide), if_neg (by decide), if_pos (by decide), r_size ht, ob0_s, if_neg (nI_ne0 hpos (by omega)), if_pos (show nI (40 - 1) = (39 : Int32) from rfl)]
      unfold m_Model_values_b292
      rw [show m_Model_values_b294 n n i j a b (nI (40 - 1)) x (nI B.2.2.2) 1 = m_Model_values_b294 n n i j a b (nI 39) x (nI B.2.2.2) (nI 1) from rfl, e1]
      exact fin _ _ _ e2
    · obtain ⟨i1, b1, e1, e2⟩ := r_vfrom (n := n) (j := j) (c := 40) (lim := (tMem t).length - 1) (x1 := nI B.2.2.2) hB ht (Or.inr ⟨rfl, by omega⟩) ((tMem t).length - 1) 0 n i b [] (by omega) (by omega) h0 (by rw [List.length_nil]; omega)
      rw [List.drop_zero, List.nil_append, ← List.dropLast_eq_take] at e2
      show LST i j a b B made (tMem t).dropLast _
      rw [if_neg (by decide), if_neg (by decide), if_neg (by decide), if_neg (by decide), if_neg (by decide), if_neg (by decide), if_neg (by decide), if_neg (by decide), if_pos (by decide), r_size ht, ob0_s, if_neg (nI_ne0 hpos (by omega)), if_neg (show ¬ nI (41 - 1) = (39 : Int32) by decide)]
      unfold m_Model_values_b292
      rw [show m_Model_values_b294 n n i j a b (nI (41 - 1)) x (nI B.2.2.2) 0 = m_Model_values_b294 n n i j a b (nI 40) x (nI B.2.2.2) (nI 0) from rfl, e1]
      exact fin _ _ _ e2
  · have t1 := r_isL_eq hu hlu
    have su : aSen u = tMem u := by unfold aSen; rw [hlu]; rfl
    have s5 := hsen _ _ hu
    rcases hc with rfl | rfl
    · obtain ⟨i1, b1, e1, e2⟩ := r_put1 (n := n) (j := j) h0 (by rw [List.length_nil]; omega) ht
      obtain ⟨i2, b2, e3, e4⟩ := r_putAll (n := n) (j := j) hn hB hu e2 (by simp only [List.nil_append, List.length_singleton]; omega)
      rw [su] at e4
      show LST i j a b B made (t :: tMem u) _
      rw [if_neg (by decide), if_neg (by decide), if_neg (by decide), if_neg (by decide), if_neg (by decide), if_neg (by decide), if_neg (by decide), if_neg (by decide), if_neg (by decide), if_neg (by decide), if_pos (by decide), e1, om_s, e3, om_s, om_eta]
      exact fin _ _ _ e4
    · obtain ⟨i1, b1, e1, e2⟩ := r_putAll (n := n) (j := j) hn hB hu h0 (by rw [List.length_nil]; omega)
      rw [su, List.nil_append] at e2
      rw [su] at s5
      obtain ⟨i2, b2, e3, e4⟩ := r_put1 (n := n) (j := j) e2 (by omega) ht
      show LST i j a b B made (tMem u ++ [t]) _
      rw [if_neg (by decide), if_neg (by decide), if_neg (by decide), if_neg (by decide), if_neg (by decide), if_neg (by decide), if_neg (by decide), if_neg (by decide), if_neg (by decide), if_neg (by decide), if_neg (by decide), if_pos (by decide), e1, om_s, e3, om_s, om_eta]
      exact fin _ _ _ e4
  · have s5 := hsen _ _ hu
    have s6 := hsen _ _ ht
    obtain ⟨i1, b1, e1, e2⟩ := r_putAll (n := n) (j := j) hn hB ht h0 (by rw [List.length_nil]; omega)
    rw [List.nil_append] at e2
    obtain ⟨i2, b2, e3, e4⟩ := r_putAll (n := n) (j := j) hn hB hu e2 (by omega)
    show LST i j a b B made (aSen t ++ aSen u) _
    rw [if_neg (by decide), if_neg (by decide), if_neg (by decide), if_neg (by decide), if_neg (by decide), if_neg (by decide), if_neg (by decide), if_neg (by decide), if_neg (by decide), if_neg (by decide), if_neg (by decide), if_neg (by decide), if_pos (by decide), e1, om_s, e3, om_s, om_eta]
    exact fin _ _ _ e4
  · obtain ⟨i1, b1, e1, e2⟩ := r_put1 (n := n) (j := j) h0 (by rw [List.length_nil]; omega) ht
    obtain ⟨i2, b2, e3, e4⟩ := r_put1 (n := n) (j := j) e2 (by simp only [List.nil_append, List.length_singleton]; omega) hu
    show LST i j a b B made [t, u] _
    rw [if_neg (by decide), if_neg (by decide), if_neg (by decide), if_neg (by decide), if_neg (by decide), if_neg (by decide), if_neg (by decide), if_neg (by decide), if_neg (by decide), if_neg (by decide), if_neg (by decide), if_neg (by decide), if_neg (by decide), if_pos (by decide), e1, om_s, e3, om_s, om_eta]
    exact fin _ _ _ e4
  · have t1 := r_isL_eq ht hlt
    rw [t1] at ht
    have hl5 := hlen _ _ ht
    obtain ⟨i1, b1, e1, e2⟩ := r_vback (n := n) (j := j) (x1 := nI B.2.2.2) hB ht (tMem t).length n i b [] (Nat.le_refl _) (by omega) h0 (by rw [List.length_nil]; omega)
    rw [List.take_length, List.nil_append] at e2
    show LST i j a b B made (tMem t).reverse _
    rw [if_neg (by decide), if_neg (by decide), if_neg (by decide), if_neg (by decide), if_neg (by decide), if_neg (by decide), if_neg (by decide), if_neg (by decide), if_neg (by decide), if_neg (by decide), if_neg (by decide), if_neg (by decide), if_neg (by decide), if_neg (by decide), if_neg (by decide), if_pos (by decide), r_size ht, ob0_s, ob1_s, Int32.sub_eq_add_neg, e1]
    exact fin _ _ _ e2

