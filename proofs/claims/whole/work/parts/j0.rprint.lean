/-! the reference prints -/
theorem r_print_b {n : Nat} {G : GB} {i : Nat → Int32} {b : Nat → Nat → Int64} {l : List Nat} {c : Nat} (hc : c = 71 ∨ c = 72 ∨ c = 73) (hl : l.length ≤ 40000) (hlow : ∀ x ∈ l, x < 128) : ∀ (m k f : Nat) (j : Nat → Int64) (a : Nat → Nat → Int32) (o : List Nat), l.length = k + m → m < f → TR i a l → rOut j a o → o.length + m + 1 < 9000000000000000000 → ∃ j' a', m_Model_running_b410 n G f i j a b (nI c) (nI k) = some (i, j', a', b, 3) ∧ rOut j' a' ((l.drop k ++ (if c = 73 then [] else [10])).reverse ++ o) ∧ (∀ q, q ≠ 48 → j' q = j q) ∧ (∀ q, q ≠ 45 → a' q = a q) := by
  intro m
  induction m with
  | zero =>
    intro k f j a o e hf ht ho hb
    obtain ⟨f, rfl⟩ : ∃ f', f = f' + 1 := ⟨f - 1, by omega⟩
    rw [m_Model_running_b410, ht.1, ile_p (by omega), List.drop_of_length_le (by omega), List.nil_append]
    rcases Classical.em (c = 73) with d | d
    · subst d
      rw [if_pos (show nI 73 = (73 : Int32) from rfl), if_pos rfl]
      exact ⟨j, a, rfl, ho, fun _ _ => rfl, fun _ _ => rfl⟩
    · rw [show (73 : Int32) = nI 73 from rfl, ieq_n ⟨d, by omega, by omega⟩, if_neg d]
      obtain ⟨j', a', e1, e2, e3, e4⟩ := r_tellOut (n := n) (i := i) (b := b) (c := 10) ho (by omega) (by decide)
      refine ⟨j', a', ?_, e2, e3, e4⟩
      rw [show (10 : Int32) = nI 10 from rfl, e1, om_s]
  | succ m ih =>
    intro k f j a o e hf ht ho hb
    obtain ⟨f, rfl⟩ : ∃ f', f = f' + 1 := ⟨f - 1, by omega⟩
    have hk : k < l.length := by omega
    obtain ⟨j1, a1, e1, e2, e3, e4⟩ := r_tellOut (n := n) (i := i) (b := b) (c := l[k]) ho (by omega) (hlow _ (List.getElem_mem hk))
    have ht1 : TR i a1 l := ⟨ht.1, fun x hx => by rw [e4 24 (by decide)]; exact ht.2 x hx⟩
    obtain ⟨j2, a2, z1, z2, z3, z4⟩ := ih (k + 1) f j1 a1 (l[k] :: o) (by omega) (by omega) ht1 e2 (by rw [List.length_cons]; omega)
    refine ⟨j2, a2, ?_, ?_, fun q hq => (z3 q hq).trans (e3 q hq), fun q hq => (z4 q hq).trans (e4 q hq)⟩
    · rw [m_Model_running_b410, ht.1, ile_n (by omega), ck_n (by omega), cl_n (by omega), ht.2 k hk, e1, om_s, ob1_s, show (1 : Int32) = nI 1 from rfl, nI_add]
      exact z1
    · rw [List.drop_eq_getElem_cons hk, List.cons_append, List.reverse_cons, List.append_assoc]
      exact z2

