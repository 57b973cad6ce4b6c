/-! lists that the reference makes -/
theorem rV_ok {a : Nat → Nat → Int32} {b : Nat → Nat → Int64} {B : RB4} : ∀ (t : Tr), (∀ v, rV a b B t none v → tOk t 0) ∧ (∀ p v, rV a b B t (some p) v → tOk t 2) := by
  intro t
  induction t with
  | nest n t _ => exact ⟨fun v h => ⟨h.1, h.2.1, h.2.2.1⟩, fun p v h => h.elim⟩
  | tag c t _ =>
    refine ⟨fun v h => ?_, fun p v h => h.elim⟩
    obtain ⟨p, _, h2, h3⟩ := h
    have ok := h3.2.2.2.2.2.1
    refine ⟨(ok c List.mem_cons_self).1, (ok c List.mem_cons_self).2, ?_⟩
    rw [h2]
    exact tOk_tW (fun x hx => ok x (List.mem_cons_of_mem _ hx))
  | nil => exact ⟨fun v h => trivial, fun p v h => trivial⟩
  | append m t ihm iht =>
    refine ⟨fun v h => ?_, fun p v h => ?_⟩
    · rw [rV_an] at h
      obtain ⟨l, p, _, _, h3, h4⟩ := h
      exact ⟨ihm.1 _ h3, iht.2 _ _ h4⟩
    · rw [rV_as] at h
      exact ⟨ihm.1 _ h.1, iht.2 _ _ h.2⟩
  | _ => exact ⟨fun v h => h.elim, fun p v h => h.elim⟩
theorem r_fine {a : Nat → Nat → Int32} {b : Nat → Nat → Int64} {B : RB4} {ms : List Tr} (h : ∀ k (h : k < ms.length), ∃ v, rV a b B (ms[k]'h) none v) (hs : tSz (tL ms) ≤ 600) : tSz (tL ms) ≤ 5000 ∧ tNd (tL ms) ≤ 1200 ∧ tSl (tL ms) ≤ 8000 := by
  have ok : tOk (tL ms) 0 := (tOk_tL (fun m hm => by
    obtain ⟨k, hk, rfl⟩ := List.getElem_of_mem hm
    obtain ⟨v, hv⟩ := h k hk
    exact (rV_ok _).1 v hv)).1
  obtain ⟨h1, h2⟩ := (small_ok (tL ms)).1 ok
  have h3 := ((tNd_le (tL ms)).1 ok).2.2
  exact ⟨by omega, by omega, by unfold tSl; omega⟩
theorem r_sz5 {a : Nat → Nat → Int32} {b : Nat → Nat → Int64} {B : RB4} {t : Tr} {v : Int64} (h : rV a b B t none v) : tSz t ≤ 5000 := by
  rcases rV_cases h with ⟨k, rfl, _⟩ | ⟨l, w, rfl, _, h3⟩ | ⟨ms, l, p, rfl, _, h3, _⟩
  · show 1 ≤ 5000; decide
  · rw [tSz_tW]; have := h3.2.2.2.2.1; omega
  · exact h3.2.2.2.2.2.2.2.1
theorem sum_le : ∀ (ms : List Tr), (∀ m ∈ ms, tSz m ≤ 5000) → (ms.map tSz).sum ≤ 5000 * ms.length := by
  intro ms
  induction ms with
  | nil => intro _; exact Nat.le_refl 0
  | cons m ms ih =>
    intro h
    have h1 := h m List.mem_cons_self
    have h2 := ih (fun x hx => h x (List.mem_cons_of_mem _ hx))
    rw [List.map_cons, List.sum_cons, List.length_cons]
    omega
theorem r_makes {n : Nat} {i : Nat → Int32} {j : Nat → Int64} {a : Nat → Nat → Int32} {b : Nat → Nat → Int64} {made k : Nat} (h : i 96 = nI made) (hm : made ≤ 30000) (hk : k ≤ 200000) : m_Model_makes n i j a b (nI k) = if 30000 < made + k then some (rFail i 8, j, a, b, 0) else some (upd i 96 (nI (made + k)), j, a, b, 1) := by
  unfold m_Model_makes
  rw [h, nI_add, show (30000 : Int32) = nI 30000 from rfl]
  rcases Nat.lt_or_ge 30000 (made + k) with c | c
  · rw [ile_n (by omega), if_pos c, show (8 : Int32) = nI 8 from rfl, r_fails, om_s]
  · rw [ile_p (by omega), if_neg (by omega), ob1_s, ob1_s]
theorem r_listed_b {n : Nat} {i : Nat → Int32} {j : Nat → Int64} {a : Nat → Nat → Int32} {b : Nat → Nat → Int64} {B : RB4} {p : Nat} {ms : List Tr} (h20 : i 20 = nI (p + ms.length)) (hp : p + ms.length ≤ 90000) (hv : ∀ k (h : k < ms.length), rV a b B (ms[k]'h) none (b 10 (p + k))) : ∀ (m k f : Nat), k + m = ms.length → m < f → m_Model_listed_b12 n f i j a b (nI p) (nI ms.length) (nI (1 + ((ms.take k).map tSz).sum)) (nI (p + k)) = if 600 < tSz (tL ms) then m_Model_listed_b58 n i j a b (nI p) else om (m_Model_makes n i j a b (nI (ms.length + 1))) (fun i_4 j_5 a_6 b_7 r_8 => if r_8 = ((0 : Int32)) then m_Model_listed_b58 n i_4 j_5 a_6 b_7 (nI p) else om (m_Model_newList n i_4 j_5 a_6 b_7 (nI ms.length)) (fun i_11 j_12 a_13 b_14 r_15 => some (i_11, j_12, a_13, b_14, r_15))) := by
  have h5 : ∀ m ∈ ms, tSz m ≤ 5000 := fun m hm => by
    obtain ⟨k, hk, rfl⟩ := List.getElem_of_mem hm
    exact r_sz5 (hv k hk)
  have hsl := sum_le ms h5
  have htl := tSz_tL ms
  intro m
  induction m with
  | zero =>
    intro k f e hf
    obtain ⟨f, rfl⟩ : ∃ f', f = f' + 1 := ⟨f - 1, by omega⟩
    rw [m_Model_listed_b12, h20, ile_p (by omega), List.take_of_length_le (by omega), ← htl, show (600 : Int32) = nI 600 from rfl, show (1 : Int32) = nI 1 from rfl, nI_add]
    rcases Nat.lt_or_ge 600 (tSz (tL ms)) with c | c
    · rw [ilt_p (by omega), if_pos c]
    · rw [ilt_n (by omega), if_neg (by omega)]
  | succ m ih =>
    intro k f e hf
    obtain ⟨f, rfl⟩ : ∃ f', f = f' + 1 := ⟨f - 1, by omega⟩
    have hk : k < ms.length := by omega
    have es : ((ms.take (k + 1)).map tSz).sum = ((ms.take k).map tSz).sum + tSz ms[k] := by
      rw [List.take_succ_eq_append_getElem hk, List.map_append, List.sum_append]
      rfl
    rw [m_Model_listed_b12, h20, ile_n (by omega), ck_n (by omega), cl_n (by omega), r_sizeOf (hv k hk), ob0_s, ob1_s, ob1_s, nI_add, show (1 : Int32) = nI 1 from rfl, nI_add, Nat.add_assoc, ← es, Nat.add_assoc p k 1]
    exact ih (k + 1) f (by omega) (by omega)
/-- a list of what has been put -/
theorem r_listed {n : Nat} {i : Nat → Int32} {j : Nat → Int64} {a : Nat → Nat → Int32} {b : Nat → Nat → Int64} {B : RB4} {ms : List Tr} {made : Nat} (hn : 90001 ≤ n) (h20 : i 20 = nI (B.2.2.2 + ms.length)) (h21 : i 21 = nI B.2.2.1) (h96 : i 96 = nI made) (hm : made ≤ 30000) (hB : B.1 ≤ 120000 ∧ B.2.1 ≤ 300000 ∧ B.2.2.1 < 90000 ∧ B.2.2.2 + ms.length ≤ 90000) (hv : ∀ k (h : k < ms.length), rV a b B (ms[k]'h) none (b 10 (B.2.2.2 + k))) :
    (aList made ms = .error 8 ∧ ∃ i', m_Model_listed n i j a b (nI B.2.2.2) = some (i', j, a, b, 3) ∧ i' 102 = 2 ∧ i' 126 = nI 8 ∧ i' 20 = nI B.2.2.2 ∧ ∀ q, q ≠ 20 → q ≠ 102 → q ≠ 126 → i' q = i q) ∨
    (aList made ms = .ok (made + ms.length + 1, tL ms) ∧ ∃ i' a', m_Model_listed n i j a b (nI B.2.2.2) = some (i', j, a', b, vL B.2.2.1) ∧ rUp a b B a' b (B.1, B.2.1, B.2.2.1 + 1, B.2.2.2 + ms.length) ∧ rV a' b (B.1, B.2.1, B.2.2.1 + 1, B.2.2.2 + ms.length) (tL ms) none (vL B.2.2.1) ∧ i' 21 = nI (B.2.2.1 + 1) ∧ i' 96 = nI (made + ms.length + 1) ∧ (∀ q, q ≠ 21 → q ≠ 96 → i' q = i q) ∧ (∀ q, q ≠ 12 → q ≠ 13 → q ≠ 14 → a' q = a q)) := by
  have h58 : ∀ i1 : Nat → Int32, m_Model_listed_b58 n i1 j a b (nI B.2.2.2) = some (rFail (upd i1 20 (nI B.2.2.2)) 8, j, a, b, 3) := fun i1 => rfl
  have hb := r_listed_b (n := n) (j := j) h20 hB.2.2.2 hv ms.length 0 n (by omega) (by omega)
  rw [List.take_zero, Nat.add_zero] at hb
  have e0 : m_Model_listed n i j a b (nI B.2.2.2) = m_Model_listed_b12 n n i j a b (nI B.2.2.2) (nI ms.length) (nI (1 + (([] : List Tr).map tSz).sum)) (nI B.2.2.2) := by
    unfold m_Model_listed
    rw [ob1_s, h20, sub_n (by omega), show B.2.2.2 + ms.length - B.2.2.2 = ms.length by omega]
    rfl
  rw [e0, hb]
  rcases Nat.lt_or_ge 600 (tSz (tL ms)) with c | c
  · have er : aList made ms = .error 8 := by unfold aList; rw [if_pos (Or.inl c)]
    rw [if_pos c, h58]
    exact Or.inl ⟨er, _, rfl, rfl, rfl, by show upd (upd (upd i 20 _) 102 2) 126 _ 20 = _; rw [upd_ne (by decide), upd_ne (by decide), upd_at], fun q q1 q2 q3 => by show upd (upd (upd i 20 _) 102 2) 126 _ q = _; rw [upd_ne q3, upd_ne q2, upd_ne q1]⟩
  · rw [if_neg (show ¬ 600 < tSz (tL ms) by omega), r_makes h96 hm (by omega)]
    rcases Nat.lt_or_ge 30000 (made + (ms.length + 1)) with d | d
    · have er : aList made ms = .error 8 := by unfold aList; rw [if_pos (Or.inr (by omega))]
      rw [if_pos d, om_s, if_pos rfl, h58]
      exact Or.inl ⟨er, _, rfl, rfl, rfl, by show upd (upd (upd (rFail i 8) 20 _) 102 2) 126 _ 20 = _; rw [upd_ne (by decide), upd_ne (by decide), upd_at], fun q q1 q2 q3 => by show upd (upd (upd (rFail i 8) 20 _) 102 2) 126 _ q = _; unfold rFail; rw [upd_ne q3, upd_ne q2, upd_ne q1, upd_ne q3, upd_ne q2]⟩
    · have hu1 : rUp a b B a b (B.1, B.2.1, B.2.2.1, B.2.2.2 + ms.length) := ⟨⟨Nat.le_refl _, hB.1, Nat.le_refl _, hB.2.1, Nat.le_refl _, by show B.2.2.1 ≤ 90000; omega, by show B.2.2.2 ≤ B.2.2.2 + ms.length; omega, hB.2.2.2⟩, fun _ _ => ⟨rfl, rfl⟩, fun _ _ => rfl, fun _ _ => ⟨rfl, rfl, rfl⟩, fun _ _ => rfl⟩
      have hv2 : ∀ k (h : k < ms.length), rV a b (B.1, B.2.1, B.2.2.1, B.2.2.2 + ms.length) (ms[k]'h) none (b 10 (B.2.2.2 + ms.length - ms.length + k)) := fun k hk => by
        rw [Nat.add_sub_cancel]
        exact (rV_up hu1 _).1 _ (hv k hk)
      have hl := rV_list (B := (B.1, B.2.1, B.2.2.1, B.2.2.2 + ms.length)) ⟨hB.1, hB.2.1, hB.2.2.1, hB.2.2.2⟩ (by show ms.length ≤ B.2.2.2 + ms.length; omega) (r_fine (fun k hk => ⟨_, hv k hk⟩) c) hv2
      have hu2 := rUp_list (a := a) (b := b) (B := (B.1, B.2.1, B.2.2.1, B.2.2.2 + ms.length)) (p := B.2.2.2 + ms.length - ms.length) (c := ms.length) (s := tSz (tL ms)) ⟨hB.1, hB.2.1, hB.2.2.1, hB.2.2.2⟩
      have hnl := r_newList (n := n) (i := upd i 96 (nI (made + (ms.length + 1)))) (j := j) (B := (B.1, B.2.1, B.2.2.1, B.2.2.2 + ms.length)) (Ls := B.2.2.1) (C := B.2.2.2 + ms.length) hn ((upd_ne (by decide)).trans h20) ((upd_ne (by decide)).trans h21) hB.2.2.2 hB.2.2.1 (by omega) hv2
      have er : aList made ms = .ok (made + ms.length + 1, tL ms) := by unfold aList; rw [if_neg (by omega)]
      rw [if_neg (show ¬ 30000 < made + (ms.length + 1) by omega), om_s, if_neg (show ¬ (1 : Int32) = 0 by decide), hnl, om_s]
      refine Or.inr ⟨er, _, _, rfl, rUp_trans hu1 hu2, hl, upd_at, ?_, fun q q1 q2 => ?_, fun q q1 q2 q3 => ?_⟩
      · rw [upd_ne (by decide), upd_at, Nat.add_assoc]
      · rw [upd_ne q1, upd_ne q2]
      · unfold lsA sv
        rw [updA_ne q3, updA_ne q2, updA_ne q1]

