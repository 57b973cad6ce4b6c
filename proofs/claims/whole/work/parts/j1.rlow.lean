/-! what is shown is of low letters -/
theorem aSh_low : ∀ (t : Tr) (k : Nat), tOk t k → ∀ m, ∀ c ∈ aSh t m, c < 128 := by
  intro t
  induction t with
  | nest z t _ =>
    intro k _ m c hc
    have hc : c ∈ aNumS z := hc
    have := ((okLs_num z).1 c hc).2
    omega
  | tag d t ih =>
    intro k h m c hc
    have hc : c ∈ d :: aSh t 0 := hc
    have hk : 33 ≤ d ∧ d ≤ 126 ∧ tOk t 1 := by
      rcases k with _ | _ | k
      · exact h
      · exact h
      · exact h.elim
    rcases List.mem_cons.mp hc with e | e
    · omega
    · exact ih 1 hk.2.2 0 c e
  | line => intro k _ m c hc; exact absurd hc (by show ¬ c ∈ ([] : List Nat); exact List.not_mem_nil)
  | nil =>
    intro k _ m c hc
    cases m with
    | zero =>
      have hc : c ∈ [91, 93] := hc
      simp only [List.mem_cons, List.not_mem_nil, or_false] at hc
      omega
    | succ m => exact absurd hc (by show ¬ c ∈ ([] : List Nat); exact List.not_mem_nil)
  | append u t ihu iht =>
    intro k h m c hc
    have hk : tOk u 0 ∧ tOk t 2 := by
      rcases k with _ | _ | _ | k
      · exact h
      · exact h.elim
      · exact h
      · exact h.elim
    have hu := ihu 0 hk.1 0 c
    have ht := iht 2 hk.2 2 c
    rcases m with _ | _ | m
    · have hc : c ∈ 91 :: (aSh u 0 ++ (aSh t 2 ++ [93])) := hc
      simp only [List.mem_cons, List.mem_append, List.not_mem_nil, or_false] at hc
      rcases hc with e | e | e | e
      · omega
      · exact hu e
      · exact ht e
      · omega
    · have hc : c ∈ aSh u 0 ++ aSh t 2 := hc
      rcases List.mem_append.mp hc with e | e
      · exact hu e
      · exact ht e
    · have hc : c ∈ 32 :: (aSh u 0 ++ aSh t 2) := hc
      simp only [List.mem_cons, List.mem_append] at hc
      rcases hc with e | e | e
      · omega
      · exact hu e
      · exact ht e
  | _ => intro k h; exact h.elim
theorem aShow_low {a : Nat → Nat → Int32} {b : Nat → Nat → Int64} {B : RB4} {t : Tr} {v : Int64} (h : rV a b B t none v) (bare : Bool) : (∀ c ∈ aShow t bare, c < 128) ∧ (aShow t bare).length ≤ 8000 := by
  have ok := (rV_ok t).1 v h
  have low := aSh_low t 0 ok
  refine ⟨fun c hc => ?_, ?_⟩
  · unfold aShow at hc
    split at hc
    · exact low _ c hc
    · exact low _ c hc
  · have hl0 : (aSh t 0).length ≤ 8000 := by
      cases hl : isL t with
      | false => have := (r_flat_ok h hl).2.2; omega
      | true =>
        have t1 := r_isL_eq h hl
        have h2 := h
        rw [t1] at h2
        obtain ⟨l, p, _, h3, _⟩ := rV_tL.mp h2
        rw [← t1] at h3
        exact h3.2.2.2.2.2.2.2.2.2
    unfold aShow
    split
    · rename_i hb
      have hl : isL t = true := by cases hh : isL t <;> simp_all
      have t1 := r_isL_eq h hl
      have e0 : aSh t 0 = 91 :: (aSh t 1 ++ [93]) := by
        rw [t1]; exact aSh_l0 _
      rw [e0] at hl0
      simp only [List.length_cons, List.length_append] at hl0
      omega
    · exact hl0

