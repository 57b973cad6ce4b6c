/-! inputs of a definition, looked at by the reference -/
theorem r_def130 {n : Nat} {rc : (Nat → Int32) → (Nat → Int64) → (Nat → Nat → Int32) → (Nat → Nat → Int64) → Int32 → Int64 → Int32 → Int64 → Int32 → Option ((Nat → Int32) × (Nat → Int64) × (Nat → Nat → Int32) × (Nat → Nat → Int64) × Int64)} {i : Nat → Int32} {j : Nat → Int64} {a : Nat → Nat → Int32} {b : Nat → Nat → Int64} {B : RB4} {is : List Tr} {v2 v5 : Int64} {v1 : Int32} {q : Nat} (hn : 100 ≤ n) (hv5 : rV a b B (tL is) none v5) (hq : q < is.length) (h5 : is.length ≤ 5) (hw : ∀ z (h : z < is.length), z ≤ q → isW (is[z]'h) = true) : ∀ (m p f : Nat), p + m = q → m + 1 < f → (∀ z (h : z < is.length), z < p → tLet (is[z]'h) ≠ tLet is[q]) → ∃ g : Bool, (g = true ↔ ∀ z (h : z < is.length), z < q → tLet (is[z]'h) ≠ tLet is[q]) ∧ m_Model_defined_b130 n rc f i j a b v1 v2 (nI 1) v5 (nI q) (nI p) = rc i j a b v1 v2 (b1 g) v5 (nI (q + 1)) := by
  intro m
  induction m with
  | zero =>
    intro p f e hf h
    obtain ⟨f, rfl⟩ : ∃ f', f = f' + 1 := ⟨f - 1, by omega⟩
    refine ⟨true, ⟨fun _ z hz hz2 => h z hz (by omega), fun _ => rfl⟩, ?_⟩
    rw [m_Model_defined_b130, if_neg (show ¬ nI 1 = (0 : Int32) by decide), ile_p (by omega)]
    unfold m_Model_defined_b184
    rw [ob1_s, show nI q + 1 = nI (q + 1) from nI_1 q]
    rfl
  | succ m ih =>
    intro p f e hf h
    obtain ⟨f, rfl⟩ : ∃ f', f = f' + 1 := ⟨f - 1, by omega⟩
    have hp : p < is.length := by omega
    obtain ⟨z1, p1, p2⟩ := r_member (n := n) (i := i) (j := j) hv5 hp
    obtain ⟨z2, p3, p4⟩ := r_member (n := n) (i := i) (j := j) hv5 hq
    obtain ⟨x, rfl, hx⟩ := r_isW_eq p2 (hw p hp (by omega))
    obtain ⟨y, rfl, hy⟩ := r_isW_eq p4 (hw q hq (Nat.le_refl _))
    have hxb : x < 120000 := by have := hx.1; have := hx.2.1; omega
    have hyb : y < 120000 := by have := hy.1; have := hy.2.1; omega
    have step : m_Model_defined_b130 n rc (f + 1) i j a b v1 v2 (nI 1) v5 (nI q) (nI p) = if b1 (decide (tLet is[p] = tLet is[q])) = 0 then m_Model_defined_b176 n rc (m_Model_defined_b130 n rc f) i j a b v1 v2 v5 (nI q) (nI p) (1 : Int32) else m_Model_defined_b176 n rc (m_Model_defined_b130 n rc f) i j a b v1 v2 v5 (nI q) (nI p) (0 : Int32) := by
      rw [m_Model_defined_b130, if_neg (show ¬ nI 1 = (0 : Int32) by decide), ile_n (by omega), p1, ob0_s, r_whatW (by omega), ob0_s, p3, ob0_s, r_whatW (by omega), ob0_s, r_sameWord hn hx hy, ob0_s]
    rw [step]
    rcases Classical.em (tLet is[p] = tLet is[q]) with c | c
    · refine ⟨false, ⟨fun e => absurd e Bool.false_ne_true, fun e => absurd c (e p hp (by omega))⟩, ?_⟩
      obtain ⟨f, rfl⟩ : ∃ f', f = f' + 1 := ⟨f - 1, by omega⟩
      rw [decide_eq_true c, b1_t, if_neg (show ¬ nI 1 = (0 : Int32) by decide)]
      unfold m_Model_defined_b176
      rw [ob1_s, m_Model_defined_b130, if_pos rfl]
      unfold m_Model_defined_b184
      rw [ob1_s, show nI q + 1 = nI (q + 1) from nI_1 q]
      rfl
    · obtain ⟨g, z1, z2⟩ := ih (p + 1) f (by omega) (by omega) (fun z hz hz2 => by
        rcases Classical.em (z = p) with d | d
        · subst d; exact c
        · exact h z hz (by omega))
      refine ⟨g, z1, ?_⟩
      rw [decide_eq_false c, b1_f, if_pos (show nI 0 = (0 : Int32) from rfl)]
      unfold m_Model_defined_b176
      rw [ob1_s, show nI p + 1 = nI (p + 1) from nI_1 p]
      exact z2
theorem r_def190 {n : Nat} {i : Nat → Int32} {j : Nat → Int64} {a : Nat → Nat → Int32} {b : Nat → Nat → Int64} {v1 : Int32} {v2 v5 : Int64} : m_Model_defined_b190 n i j a b v1 v2 (nI 0) v5 = some (rFail i 3, j, a, b, 3) := by
  unfold m_Model_defined_b190
  rw [if_pos (show nI 0 = (0 : Int32) from rfl), show (3 : Int32) = nI 3 from rfl, r_fails, om_s]
theorem nodup_take {ls : List (List Nat)} {q : Nat} (hq : q < ls.length) (h : (ls.take q).Nodup) : (ls.take (q + 1)).Nodup ↔ ∀ z (h : z < ls.length), z < q → ls[z] ≠ ls[q] := by
  rw [List.take_succ_eq_append_getElem hq, List.nodup_append]
  constructor
  · rintro ⟨_, _, h3⟩ z hz hz2
    refine h3 _ ?_ _ (List.mem_singleton.mpr rfl)
    have hzt : z < (ls.take q).length := by rw [List.length_take]; omega
    have ez : (ls.take q)[z]'hzt = ls[z] := List.getElem_take
    rw [← ez]
    exact List.getElem_mem hzt
  · intro h3
    refine ⟨h, by simp, fun x hx y hy => ?_⟩
    rw [List.mem_singleton] at hy
    subst hy
    obtain ⟨k, hk, rfl⟩ := List.getElem_of_mem hx
    rw [List.length_take] at hk
    rw [List.getElem_take]
    exact h3 k (by omega) (by omega)
theorem nodup_of_take {ls : List (List Nat)} {q : Nat} (h : ls.Nodup) : (ls.take q).Nodup := h.sublist (List.take_sublist q ls)
theorem r_def98 {n : Nat} {i : Nat → Int32} {j : Nat → Int64} {a : Nat → Nat → Int32} {b : Nat → Nat → Int64} {B : RB4} {is : List Tr} {v2 v5 : Int64} {v1 : Int32} (hn : 100 ≤ n) (hv5 : rV a b B (tL is) none v5) (h5 : is.length ≤ 5) : ∀ (m q f : Nat), q + m = is.length → m + 1 < f → (∀ z (h : z < is.length), z < q → isW (is[z]'h) = true) → ((is.map tLet).take q).Nodup → m_Model_defined_b98 n f i j a b v1 v2 (nI 1) v5 (nI q) = if dec ((∀ v ∈ is, isW v = true) ∧ (is.map tLet).Nodup) = true then m_Model_defined_b190 n i j a b v1 v2 (nI 1) v5 else some (rFail i 3, j, a, b, 3) := by
  intro m
  induction m with
  | zero =>
    intro q f e hf hw hnd
    obtain ⟨f, rfl⟩ : ∃ f', f = f' + 1 := ⟨f - 1, by omega⟩
    have hy : (∀ v ∈ is, isW v = true) ∧ (is.map tLet).Nodup := ⟨fun v hv => by
      obtain ⟨k, hk, rfl⟩ := List.getElem_of_mem hv
      exact hw k hk (by omega), by rw [List.take_of_length_le (by rw [List.length_map]; omega)] at hnd; exact hnd⟩
    rw [m_Model_defined_b98, if_neg (show ¬ nI 1 = (0 : Int32) by decide), r_size hv5, ob0_s, ile_p (by omega), dec_t hy, if_pos rfl]
  | succ m ih =>
    intro q f e hf hw hnd
    obtain ⟨f, rfl⟩ : ∃ f', f = f' + 1 := ⟨f - 1, by omega⟩
    have hq : q < is.length := by omega
    obtain ⟨z1, p1, p2⟩ := r_member (n := n) (i := i) (j := j) hv5 hq
    obtain ⟨_, kw, _⟩ := r_kinds n p2
    obtain ⟨f, rfl⟩ : ∃ f', f = f' + 1 := ⟨f - 1, by omega⟩
    have bad : ¬ ((∀ v ∈ is, isW v = true) ∧ (is.map tLet).Nodup) → m_Model_defined_b98 n (f + 1) i j a b v1 v2 (nI 0) v5 (nI (q + 1)) = if dec ((∀ v ∈ is, isW v = true) ∧ (is.map tLet).Nodup) = true then m_Model_defined_b190 n i j a b v1 v2 (nI 1) v5 else some (rFail i 3, j, a, b, 3) := fun h => by
      rw [m_Model_defined_b98, if_pos (show nI 0 = (0 : Int32) from rfl), r_def190, dec_f h, if_neg (by decide)]
    rw [m_Model_defined_b98, if_neg (show ¬ nI 1 = (0 : Int32) by decide), r_size hv5, ob0_s, ile_n (by omega), p1, ob0_s, kw, ob0_s]
    cases hwq : isW is[q] with
    | false =>
      obtain ⟨n', rfl⟩ : ∃ n', n = n' + 1 := ⟨n - 1, by omega⟩
      rw [m_Model_defined_b130, b1_f, if_pos (show nI 0 = (0 : Int32) from rfl)]
      unfold m_Model_defined_b184
      rw [ob1_s, show nI q + 1 = nI (q + 1) from nI_1 q]
      refine bad (fun h => ?_)
      rw [h.1 _ (List.getElem_mem hq)] at hwq
      cases hwq
    | true =>
      have hw2 : ∀ z (h : z < is.length), z ≤ q → isW (is[z]'h) = true := fun z hz hz2 => by
        rcases Classical.em (z = q) with c | c
        · subst c; exact hwq
        · exact hw z hz (by omega)
      obtain ⟨g, g1, g2⟩ := r_def130 (n := n) (rc := m_Model_defined_b98 n (f + 1)) (i := i) (j := j) (v1 := v1) (v2 := v2) hn hv5 hq h5 hw2 q 0 n (by omega) (by omega) (fun z _ hz => absurd hz (Nat.not_lt_zero z))
      rw [b1_t, show (0 : Int32) = nI 0 from rfl, g2]
      have hq2 : q < (is.map tLet).length := by rw [List.length_map]; exact hq
      have hnt := nodup_take hq2 hnd
      have hiff : g = true ↔ ((is.map tLet).take (q + 1)).Nodup := by
        rw [g1, hnt]
        constructor
        · intro h z hz hz2
          rw [List.getElem_map, List.getElem_map]
          exact h z (by rw [List.length_map] at hz; exact hz) hz2
        · intro h z hz hz2
          have := h z (by rw [List.length_map]; exact hz) hz2
          rw [List.getElem_map, List.getElem_map] at this
          exact this
      cases hg : g with
      | true =>
        rw [b1_t]
        exact ih (q + 1) (f + 1) (by omega) (by omega) (fun z hz hz2 => hw2 z hz (by omega)) (hiff.mp hg)
      | false =>
        rw [b1_f]
        refine bad (fun h => ?_)
        have := hiff.mpr (nodup_of_take h.2)
        rw [hg] at this
        cases this

