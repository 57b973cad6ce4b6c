theorem upd_upd (f : Nat → Int32) (k : Nat) (x y : Int32) : upd (upd f k x) k y = upd f k y := by
  funext j; unfold upd; by_cases h : j = k <;> simp [h]
theorem upd_at {f : Nat → Int32} {k : Nat} {x : Int32} : upd f k x k = x := by unfold upd; rw [if_pos rfl]
theorem upd_ne {f : Nat → Int32} {k j : Nat} {x : Int32} (h : ¬ j = k) : upd f k x j = f j := by unfold upd; rw [if_neg h]
theorem updA_updA (a : Nat → Nat → Int32) (k : Nat) (f h : Nat → Int32) : updA (updA a k f) k h = updA a k h := by
  funext j; unfold updA; by_cases h : j = k <;> simp [h]
theorem updA_at {a : Nat → Nat → Int32} {k : Nat} {f : Nat → Int32} : updA a k f k = f := by unfold updA; rw [if_pos rfl]
theorem updA_ne {a : Nat → Nat → Int32} {k j : Nat} {f : Nat → Int32} (h : ¬ j = k) : updA a k f j = a j := by unfold updA; rw [if_neg h]
theorem cb_0 {δ : Type} {k : Option δ} : cb 0 k = k := if_pos (Or.inl rfl)
theorem cb_1 {δ : Type} {k : Option δ} : cb 1 k = k := if_pos (Or.inr rfl)
