/-! how many inputs, and of which kind -/
def kT : List Nat := [17, 17, 17, 17, 17, 33, 33, 17, 33, 18, 33, 19, 33, 33, 33, 33, 33, 33, 20, 18, 18, 18, 18, 18, 17, 18, 18, 17, 21, 21, 22, 33, 33, 33, 33, 33, 23, 23, 23, 23, 23, 24, 25, 25, 33, 33, 25, 23, 33, 26, 27, 27, 27, 28, 27, 27, 23, 29, 30, 24, 33, 31, 31, 33, 31, 32, 33, 33, 28, 27, 33, 33, 33, 33]
def kLs : List (List Nat) := [[110], [110], [110], [110], [110], [], [], [110], [], [110, 110], [], [116], [], [], [], [], [], [], [116, 116], [110, 110], [110, 110], [110, 110], [110, 110], [110, 110], [110], [110, 110], [110, 110], [110], [98, 98], [98, 98], [98], [], [], [], [], [], [108], [108], [108], [108], [108], [110, 108], [118, 108], [118, 108], [], [], [118, 108], [108], [], [119, 118], [119], [119], [119], [119, 108], [119], [119], [108], [98, 108], [98, 108, 108], [110, 108], [], [108, 108], [108, 108], [], [108, 108], [116, 108], [], [], [119, 108], [119], [], [], [], []]
set_option maxRecDepth 100000 in
theorem r_kindT0 : ∀ k, k < 74 → m_Model_kinds 0 (fun _ => 0) (fun _ => 0) (fun _ _ => 0) (fun _ _ => 0) (nI k) = some (kT.getD k 0) := by decide +kernel
theorem r_kindT {n : Nat} {i : Nat → Int32} {j : Nat → Int64} {a : Nat → Nat → Int32} {b : Nat → Nat → Int64} {k : Nat} (h : k < 74) : m_Model_kinds n i j a b (nI k) = some (kT.getD k 0) := r_kindT0 k h
set_option maxRecDepth 100000 in
theorem r_kindL : ∀ k, k < 74 → isTx (kT.getD k 0) (kLs.getD k []) := by
  unfold isTx
  decide +kernel
set_option maxRecDepth 100000 in
theorem r_arT0 : ∀ k, k < 74 → m_Model_arity 0 (fun _ => 0) (fun _ => 0) (fun _ _ => 0) (fun _ _ => 0) (nI k) = some (nI (aKind (pCode k)).length) := by decide +kernel
theorem r_arT {n : Nat} {i : Nat → Int32} {j : Nat → Int64} {a : Nat → Nat → Int32} {b : Nat → Nat → Int64} {k : Nat} (h : k < 74) : m_Model_arity n i j a b (nI k) = some (nI (aKind (pCode k)).length) := r_arT0 k h
/-- which texts are as the language has them, but for v -/
def kSame (r s : List Nat) : Bool := r == s || (r == [] && s.all (fun c => c == 118))
set_option maxRecDepth 100000 in
theorem kLs_same0 : ∀ k, k < 74 → (k == 11 || k == 18 || k == 48 || k == 65 || (kSame (kLs.getD k []) (aKind (pCode k)) && !(kLs.getD k []).contains 116)) = true := by decide +kernel
theorem kLs_same (k : Nat) (hk : k < 74) (h1 : k ≠ 11) (h2 : k ≠ 18) (h3 : k ≠ 48) (h4 : k ≠ 65) : kSame (kLs.getD k []) (aKind (pCode k)) = true ∧ 116 ∉ kLs.getD k [] := by
  have h := kLs_same0 k hk
  generalize kLs.getD k [] = r at h ⊢
  simp only [Bool.or_eq_true, Bool.and_eq_true, beq_iff_eq, Bool.not_eq_true', List.contains_eq_mem, decide_eq_false_iff_not] at h
  rcases h with (((h | h) | h) | h) | h
  · exact absurd h h1
  · exact absurd h h2
  · exact absurd h h3
  · exact absurd h h4
  · exact h
theorem fit_same {k : Nat} (h : k ≠ 116) (v : Tr) : rFit1 k v = aFit1 k v := by
  unfold rFit1 aFit1
  rcases Classical.em (k = 110) with c | c
  · rw [if_pos c, if_pos c]
  rw [if_neg c, if_neg c]
  rcases Classical.em (k = 108) with c | c
  · rw [if_pos c, if_pos c]
  rw [if_neg c, if_neg c]
  rcases Classical.em (k = 119) with c | c
  · rw [if_pos c, if_pos c]
  rw [if_neg c, if_neg c, if_neg h, if_neg h]
  have e : ∀ w : List Nat, (tLet v == w) = decide (tLet v = w) := fun w => by rw [Bool.eq_iff_iff]; simp
  rw [e, e]
theorem fits_same : ∀ (ks : List Nat) (vs : List Tr), 116 ∉ ks → rFits ks vs = aFits ks vs := by
  intro ks
  induction ks with
  | nil => intro vs _; rfl
  | cons k ks ih =>
    intro vs h
    cases vs with
    | nil => rfl
    | cons v vs =>
      show (rFit1 k v && rFits ks vs) = (aFit1 k v && aFits ks vs)
      rw [fit_same (fun e => h (by rw [e]; exact List.mem_cons_self)), ih vs (fun e => h (List.mem_cons_of_mem _ e))]
theorem fits_v : ∀ (ks : List Nat) (vs : List Tr), ks.all (fun c => c == 118) = true → vs.length = ks.length → aFits ks vs = true := by
  intro ks
  induction ks with
  | nil => intro vs _ _; rfl
  | cons k ks ih =>
    intro vs h hl
    rw [List.all_cons, Bool.and_eq_true] at h
    have hk : k = 118 := by simpa using h.1
    cases vs with
    | nil => cases hl
    | cons v vs =>
      show (aFit1 k v && aFits ks vs) = true
      rw [ih vs h.2 (by simp at hl; exact hl), hk]
      rfl
/-- the inputs of a word fit, or they don't: the same on both sides -/
theorem fits_eq {k : Nat} {vs : List Tr} (hk : k < 74) (h : k ≠ 11 ∧ k ≠ 18 ∧ k ≠ 48 ∧ k ≠ 65) (hl : vs.length = (aKind (pCode k)).length) : rFits (kLs.getD k []) (vs.take (kLs.getD k []).length) = aFits (aKind (pCode k)) vs ∧ (kLs.getD k []).length ≤ vs.length := by
  obtain ⟨h1, h2⟩ := kLs_same k hk h.1 h.2.1 h.2.2.1 h.2.2.2
  generalize kLs.getD k [] = r at h1 h2
  generalize aKind (pCode k) = s at h1 hl
  unfold kSame at h1
  rw [Bool.or_eq_true] at h1
  rcases h1 with h1 | h1
  · have e : r = s := by simpa using h1
    subst e
    rw [List.take_of_length_le (by omega)]
    exact ⟨fits_same _ _ h2, by omega⟩
  · rw [Bool.and_eq_true] at h1
    have e : r = [] := by simpa using h1.1
    subst e
    refine ⟨?_, Nat.zero_le _⟩
    rw [fits_v s vs h1.2 hl]
    rfl

