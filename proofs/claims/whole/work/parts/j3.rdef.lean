/-! a definition set down by the reference -/
theorem r_isW_eq {a : Nat → Nat → Int32} {b : Nat → Nat → Int64} {B : RB4} {t : Tr} {v : Int64} (h : rV a b B t none v) (hw : isW t = true) : ∃ x, v = vW x ∧ rW a B x (tLet t) := by
  rcases rV_cases h with ⟨k, rfl, _⟩ | ⟨l, w, rfl, rfl, h3⟩ | ⟨ms, l, p, rfl, _⟩
  · rw [isW_tN] at hw; cases hw
  · rw [tLet_tW]; exact ⟨w, rfl, h3⟩
  · rw [isW_tL] at hw; cases hw
theorem r_defset {n : Nat} {i : Nat → Int32} {j : Nat → Int64} {a0 : Nat → Nat → Int32} {b : Nat → Nat → Int64} {B : RB4} {is : List Tr} {body : Tr} {v2 v5 : Int64} {k : Nat} (hB : B.1 ≤ 120000 ∧ B.2.1 ≤ 300000 ∧ B.2.2.1 ≤ 90000 ∧ B.2.2.2 ≤ 90000) (hk : k < 40) (h5 : is.length ≤ 5) (hw : ∀ m ∈ is, isW m = true) (hv5 : rV a0 b B (tL is) none v5) (hv2 : rV a0 b B (tL [tL is, body]) none v2) : ∀ (m q f : Nat) (a : Nat → Nat → Int32), q + m = is.length → m < f → (∀ r, r ≠ 31 → a r = a0 r) → (∀ z (h : z < is.length), z < q → ∃ y, a 31 (5 * k + z) = nI y ∧ rW a0 B y (tLet (is[z]'h))) → ∃ a' v, m_Model_defined_b249 n f i j a b v2 v5 (nI k) (nI q) = some (i, j, a', svl b 32 k v, 3) ∧ rV a0 b B body none v ∧ (∀ r, r ≠ 31 → a' r = a0 r) ∧ (∀ y, y < 5 * k ∨ 5 * k + 5 ≤ y → a' 31 y = a 31 y) ∧ (∀ z (h : z < is.length), ∃ y, a' 31 (5 * k + z) = nI y ∧ rW a0 B y (tLet (is[z]'h))) := by
  have same : ∀ a : Nat → Nat → Int32, (∀ r, r ≠ 31 → a r = a0 r) → rUp a0 b B a b B ∧ rUp a b B a0 b B := fun a h =>
    ⟨rUp_same ⟨h 1 (by decide), h 3 (by decide), h 4 (by decide), h 12 (by decide), h 13 (by decide), h 14 (by decide), rfl⟩ hB, rUp_same ⟨(h 1 (by decide)).symm, (h 3 (by decide)).symm, (h 4 (by decide)).symm, (h 12 (by decide)).symm, (h 13 (by decide)).symm, (h 14 (by decide)).symm, rfl⟩ hB⟩
  intro m
  induction m with
  | zero =>
    intro q f a e hf h1 h2
    obtain ⟨f, rfl⟩ : ∃ f', f = f' + 1 := ⟨f - 1, by omega⟩
    obtain ⟨u1, u2⟩ := same a h1
    obtain ⟨z, p1, p2⟩ := r_member (n := n) (i := i) (j := j) ((rV_up u1 _).1 _ hv2) (show 1 < [tL is, body].length from Nat.lt_succ_self 1)
    refine ⟨a, z, ?_, (rV_up u2 _).1 _ p2, h1, fun _ _ => rfl, fun z hz => h2 z hz (by omega)⟩
    rw [m_Model_defined_b249, r_size ((rV_up u1 _).1 _ hv5), ob0_s, ile_p (by omega), show (1 : Int32) = nI 1 from rfl, p1, ob0_s, ck_n (by omega), ob1_s, cl_n (by omega)]
  | succ m ih =>
    intro q f a e hf h1 h2
    obtain ⟨f, rfl⟩ : ∃ f', f = f' + 1 := ⟨f - 1, by omega⟩
    obtain ⟨u1, u2⟩ := same a h1
    have hq : q < is.length := by omega
    obtain ⟨z, p1, p2⟩ := r_member (n := n) (i := i) (j := j) ((rV_up u1 _).1 _ hv5) hq
    obtain ⟨x, rfl, hx⟩ := r_isW_eq p2 (hw _ (List.getElem_mem hq))
    have hx0 := rW_up u2 hx
    have hxb : x < 120000 := by have := hx.1; have := hx.2.1; omega
    have e5 : (5 : Int32) * nI k = nI (5 * k) := by rw [show (5 : Int32) = nI 5 from rfl, pk_mul]
    obtain ⟨a', v, z1, z2, z3, z4, z5⟩ := ih (q + 1) f (sv a 31 (5 * k + q) (nI x)) (by omega) (by omega) (fun r hr => (updA_ne hr).trans (h1 r hr)) (fun z hz hz2 => by
      show ∃ y, upd (a 31) (5 * k + q) (nI x) (5 * k + z) = nI y ∧ _
      rcases Classical.em (z = q) with c | c
      · subst c; exact ⟨x, upd_at, hx0⟩
      · obtain ⟨y, y1, y2⟩ := h2 z hz (by omega)
        exact ⟨y, (upd_ne (by omega)).trans y1, y2⟩)
    refine ⟨a', v, ?_, z2, z3, fun y hy => (z4 y hy).trans (by show upd (a 31) _ _ y = _; rw [upd_ne (by omega)]), z5⟩
    rw [m_Model_defined_b249, r_size ((rV_up u1 _).1 _ hv5), ob0_s, ile_n (by omega), p1, ob0_s, r_whatW (by omega), ob0_s, e5, nI_add, ck_n (by omega), ob1_s, cl_n (by omega), ob1_s, show (1 : Int32) = nI 1 from rfl, nI_add]
    exact z1

