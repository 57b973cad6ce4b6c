/-! what the reference has said -/
def rOut (j : Nat → Int64) (a : Nat → Nat → Int32) (o : List Nat) : Prop := j 48 = Int64.ofInt (o.length : Int) ∧ (∀ k (h : k < o.length), k < 2000 → a 45 ((o.length - 1 - k) % 2000) = nI (o[k]'h)) ∧ ∀ k, k < 2000 → ∃ c, c < 128 ∧ a 45 k = nI c
theorem l64_rem {m : Nat} (h : m < 9000000000000000000) : (Int64.ofInt (m : Int) - Int64.ofInt (m : Int) / 2000 * 2000).toInt32 = nI (m % 2000) := by
  have e1 : Int64.ofInt (m : Int) / 2000 = Int64.ofInt ((m / 2000 : Nat) : Int) := by
    apply Int64.toInt_inj.mp
    rw [show (2000 : Int64) = Int64.ofInt 2000 from rfl, Int64.toInt_div, l64_int (by omega) (by omega), l64_int (by omega) (by omega), l64_int (by omega) (by omega), Int.tdiv_eq_ediv_of_nonneg (by omega), show ((m : Int) / 2000) = ((m / 2000 : Nat) : Int) from rfl]
    exact Int.bmod_eq_of_le (by show -9223372036854775808 ≤ _; omega) (by show _ < 9223372036854775808; omega)
  rw [e1, show (2000 : Int64) = Int64.ofInt 2000 from rfl, ← Int64.ofInt_mul, ← Int64.ofInt_sub, Int64.toInt32_ofInt, nI_ofInt]
  congr 1
  omega
theorem r_tellOut {n : Nat} {i : Nat → Int32} {j : Nat → Int64} {a : Nat → Nat → Int32} {b : Nat → Nat → Int64} {o : List Nat} {c : Nat} (h : rOut j a o) (ho : o.length < 9000000000000000000) (hc : c < 128) : ∃ j' a', m_Model_tellOut n i j a b (nI c) = some (i, j', a', b, 0) ∧ rOut j' a' (c :: o) ∧ (∀ q, q ≠ 48 → j' q = j q) ∧ (∀ q, q ≠ 45 → a' q = a q) := by
  obtain ⟨h1, h2, h3⟩ := h
  have hm := Nat.mod_lt o.length (show 0 < 2000 by decide)
  refine ⟨vp_updL j 48 (Int64.ofInt ((o.length + 1 : Nat) : Int)), sv a 45 (o.length % 2000) (nI c), ?_, ⟨updL_at, fun k hk hk2 => ?_, fun k hk => ?_⟩, fun q hq => updL_ne hq, fun q hq => updA_ne hq⟩
  · unfold m_Model_tellOut
    rw [h1, l64_rem ho, ck_n (by omega), ob1_s, ob1_s, ob1_s, cl_n (by omega), nar8 hc, show (1 : Int64) = Int64.ofInt 1 from rfl, ← Int64.ofInt_add]
    rfl
  · show upd (a 45) (o.length % 2000) (nI c) ((o.length + 1 - 1 - k) % 2000) = _
    cases k with
    | zero =>
      rw [show o.length + 1 - 1 - 0 = o.length by omega, upd_at]
      rfl
    | succ k =>
      have hk' : k < o.length := by rw [List.length_cons] at hk; omega
      rw [upd_ne (by omega), show o.length + 1 - 1 - (k + 1) = o.length - 1 - k by omega, h2 k hk' (by omega)]
      rfl
  · show ∃ c', c' < 128 ∧ upd (a 45) (o.length % 2000) (nI c) k = nI c'
    rcases Classical.em (k = o.length % 2000) with e | e
    · exact ⟨c, hc, by rw [e, upd_at]⟩
    · obtain ⟨c', q1, q2⟩ := h3 k hk
      exact ⟨c', q1, by rw [upd_ne e]; exact q2⟩

