/-! what always holds goes on to hold: instructions -/
theorem pI_setP (g : GS) (k : Nat) (v : Int) (t j : Nat) (hv : -2147483648 ≤ v ∧ v ≤ 2147483647) (hk : k < 7) (hj : j < 7) : pI (setP g k v) t j = if t = gTold g ∧ j = k then v else pI g t j := by
  show (upd (gParts g) (7 * gTold g + k) (Int32.ofInt v) (7 * t + j)).toInt = _
  unfold upd
  by_cases h : t = gTold g ∧ j = k
  · rw [if_pos h, if_pos (by rw [h.1, h.2]), I_int hv]
  · rw [if_neg h, if_neg (by omega)]
    rfl
theorem gOk_setP {g : GS} {k : Nat} {v : Int} (h : gOk g) (hk : k < 7) (h1 : k < 4 → -1000000 ≤ v ∧ v ≤ 1000000) (h2 : k = 4 → 0 ≤ v ∧ v ≤ 11) (h3 : k = 5 → 0 ≤ v ∧ v ≤ 7) (h4 : k = 6 → v = 0 ∨ v = 1) : gOk (setP g k v) := by
  obtain ⟨a1, a2, a3, a4, a5, a6⟩ := h
  have hv : -2147483648 ≤ v ∧ v ≤ 2147483647 := by
    rcases (by omega : k < 4 ∨ k = 4 ∨ k = 5 ∨ k = 6) with h | h | h | h
    · have := h1 h; omega
    · have := h2 h; omega
    · have := h3 h; omega
    · have := h4 h; omega
  refine ⟨a1, a2, a3, a4, fun t ht => ?_, a6⟩
  obtain ⟨b1, b2, b3, b4, b5, b6⟩ := a5 t ht
  refine ⟨fun j hj => ?_, ?_, ?_, ?_, ?_, ?_⟩
  · rw [pI_setP g k v t j hv hk (by omega)]
    split
    · next e => exact h1 (by omega)
    · exact b1 j hj
  all_goals
    rw [pI_setP g k v t _ hv hk (by omega)]
    split
    · next e =>
      first
        | exact (h2 e.2.symm).1
        | exact (h2 e.2.symm).2
        | exact (h3 e.2.symm).1
        | exact (h3 e.2.symm).2
        | exact h4 e.2.symm
    · assumption
theorem gOk_set4 {g : GS} {f : Nat → Int} (h : gOk g) (hf : ∀ k, k < 4 → -1000000 ≤ f k ∧ f k ≤ 1000000) : gOk (set4 g f) := by
  have s : ∀ (g : GS) (k : Nat), k < 4 → gOk g → gOk (setP g k (f k)) := fun g k hk h => gOk_setP h (by omega) (fun _ => hf k hk) (fun e => by omega) (fun e => by omega) (fun e => by omega)
  exact s _ 3 (by decide) (s _ 2 (by decide) (s _ 1 (by decide) (s _ 0 (by decide) h)))
theorem aDots_ok {col : Int32} {f : Int → Int} {byc : Bool} (hc : 0 ≤ col.toInt ∧ col.toInt ≤ 7) : ∀ (k : Nat) (v : Int) (d : Nat → Int32), (∀ x, x < 4096 → 0 ≤ (d x).toInt ∧ (d x).toInt ≤ 7) → ∀ x, x < 4096 → 0 ≤ (aDots col f byc k v d x).toInt ∧ (aDots col f byc k v d x).toInt ≤ 7 := by
  intro k
  induction k with
  | zero => intro v d h; exact h
  | succ k ih =>
    intro v d h
    rw [aDots]
    apply ih
    intro x hx
    split
    · unfold upd
      by_cases e : x = (if byc = true then ((f v + 32) * 64 + v + 32).toNat else ((v + 32) * 64 + f v + 32).toNat)
      · rw [if_pos e]; exact hc
      · rw [if_neg e]; exact h x hx
    · exact h x hx
theorem gOk_fwd {g g' : GS} {z : Int} (h : gOk g) (e : aFwd g z = .ok g') : gOk g' := by
  unfold aFwd at e
  split at e
  · cases e
  dsimp only at e
  generalize ht : (if (pI g (gTold g) 4).toNat < 6 then z else -z) = tm at e
  split at e
  · cases e
  next hf =>
  cases e
  have hk : ∀ k, k < 4 → aFar (pI g (gTold g) k + tm * aSteps ((pI g (gTold g) 4).toNat % 6) k) = false := by
    intro k hk
    rw [Bool.or_eq_true, Bool.or_eq_true, Bool.or_eq_true] at hf
    rw [← Bool.not_eq_true]
    intro e9
    apply hf
    rcases (by omega : k = 0 ∨ k = 1 ∨ k = 2 ∨ k = 3) with rfl | rfl | rfl | rfl
    · exact Or.inl (Or.inl (Or.inl e9))
    · exact Or.inl (Or.inl (Or.inr e9))
    · exact Or.inl (Or.inr e9)
    · exact Or.inr e9
  refine gOk_set4 ?_ (fun k hk9 => by have := of_decide_eq_false (hk k hk9); omega)
  split
  · obtain ⟨a1, a2, a3, a4, a5, a6⟩ := h
    obtain ⟨b1, b2, b3, b4, b5, b6⟩ := a5 (gTold g) a1
    refine ⟨a1, a2, a3, a4, a5, ?_⟩
    exact aDots_ok ⟨b4, b5⟩ _ _ _ a6
  · exact h
theorem aFwd_e {g : GS} {z : Int} {e : Nat} (h : aFwd g z = .error e) : e ≤ 13 := by
  unfold aFwd at h
  split at h
  · cases h; decide
  dsimp only at h
  generalize ht : (if (pI g (gTold g) 4).toNat < 6 then z else -z) = tm at h
  split at h
  · cases h; decide
  · cases h
theorem iv_retG {g : GS} {n : LN} {F : List Fr} {L : List Lv} {r : Except Nat (GS × Option Tr)} (h : IV g n F L) (h1 : ∀ g' v, r = .ok (g', v) → gOk g') (h2 : ∀ e, r = .error e → e ≤ 13) : aInv2 (retG g n F L r) := by
  match r, h1, h2 with
  | .ok (g', v), h1, _ => exact iv_1 ⟨h1 g' v rfl, h.2⟩
  | .error e, _, h2 => exact iv_fail h (h2 e rfl)
theorem iv_turtle {g : GS} {n : LN} {F : List Fr} {L : List Lv} {code : Nat} {x y : Int} (h : IV g n F L) : aInv2 (retG g n F L (aTurtle code x y g)) := by
  have hg := h.1
  have fw : ∀ z, aInv2 (retG g n F L (rG g (aFwd g z))) := by
    intro z
    cases e : aFwd g z with
    | ok g' => exact iv_1 ⟨gOk_fwd hg e, h.2⟩
    | error k => exact iv_fail h (aFwd_e e)
  have tu : ∀ b z, aInv2 (retG g n F L (rG g (aTurn g b z))) := by
    intro b z
    unfold aTurn
    split
    · exact iv_fail h (by decide)
    · exact iv_1 ⟨gOk_setP hg (by decide) (fun e => by omega) (fun _ => by omega) (fun e => by omega) (fun e => by omega), h.2⟩
  unfold aTurtle
  dsimp only
  by_cases c1 : code = 1
  · rw [if_pos c1]
    exact fw x
  rw [if_neg c1]
  by_cases c2 : code = 2
  · rw [if_pos c2]
    exact fw (-x)
  rw [if_neg c2]
  by_cases c3 : code = 3
  · rw [if_pos c3]
    exact tu _ _
  rw [if_neg c3]
  by_cases c4 : code = 4
  · rw [if_pos c4]
    exact tu _ _
  rw [if_neg c4]
  by_cases c5 : code = 5
  · rw [if_pos c5]
    exact tu _ _
  rw [if_neg c5]
  by_cases c6 : code = 6
  · rw [if_pos c6]
    exact iv_1 ⟨gOk_setP hg (by decide) (fun e => by omega) (fun e => by omega) (fun e => by omega) (fun _ => Or.inl rfl), h.2⟩
  rw [if_neg c6]
  by_cases c7 : code = 7
  · rw [if_pos c7]
    exact iv_1 ⟨gOk_setP hg (by decide) (fun e => by omega) (fun e => by omega) (fun e => by omega) (fun _ => Or.inr rfl), h.2⟩
  rw [if_neg c7]
  by_cases c8 : code = 8
  · rw [if_pos c8]
    by_cases c9 : x < 0 ∨ 7 < x
    · rw [if_pos c9]; exact iv_fail h (by decide)
    · rw [if_neg c9]; exact iv_1 ⟨gOk_setP hg (by decide) (fun e => by omega) (fun e => by omega) (fun _ => by omega) (fun e => by omega), h.2⟩
  rw [if_neg c8]
  by_cases c9 : code = 9
  · rw [if_pos c9]
    exact iv_1 ⟨gOk_set4 (gOk_setP hg (by decide) (fun e => by omega) (fun _ => by decide) (fun e => by omega) (fun e => by omega)) (fun _ _ => by decide), h.2⟩
  rw [if_neg c9]
  by_cases c10 : code = 10
  · rw [if_pos c10]
    by_cases c9 : x < -30000 ∨ 30000 < x ∨ y < -30000 ∨ 30000 < y
    · rw [if_pos c9]; exact iv_fail h (by decide)
    · rw [if_neg c9]
      refine iv_1 ⟨gOk_set4 hg (fun k hk => ?_), h.2⟩
      split
      · omega
      · split <;> omega
  rw [if_neg c10]
  by_cases c11 : code = 11
  · rw [if_pos c11]
    obtain ⟨a1, a2, a3, a4, a5, a6⟩ := hg
    exact iv_1 ⟨⟨a1, a2, a3, a4, a5, fun _ _ => (by decide : 0 ≤ (0 : Int32).toInt ∧ (0 : Int32).toInt ≤ 7)⟩, h.2⟩
  rw [if_neg c11]
  by_cases c12 : code = 12
  · rw [if_pos c12]
    by_cases c9 : x < 0 ∨ 7 < x
    · rw [if_pos c9]; exact iv_fail h (by decide)
    · rw [if_neg c9]; exact iv_1 ⟨gOk_told hg (by omega), h.2⟩
  rw [if_neg c12]
  by_cases c13 : code = 13
  · rw [if_pos c13]
    exact iv_1 h
  rw [if_neg c13]
  by_cases c14 : code = 14
  · rw [if_pos c14]
    exact iv_1 h
  rw [if_neg c14]
  by_cases c15 : code = 15
  · rw [if_pos c15]
    exact iv_1 h
  rw [if_neg c15]
  by_cases c16 : code = 16
  · rw [if_pos c16]
    exact iv_1 h
  rw [if_neg c16]
  by_cases c17 : code = 17
  · rw [if_pos c17]
    exact iv_1 h
  rw [if_neg c17]
  by_cases c18 : code = 18
  · rw [if_pos c18]
    exact iv_1 h
  rw [if_neg c18]
  by_cases c9 : x < 0 ∨ 7 < x ∨ y < 0 ∨ 7 < y
  · rw [if_pos c9]; exact iv_fail h (by decide)
  · rw [if_neg c9]; exact iv_1 h
theorem inB_e {v : Int} {e : Nat} (h : inB v = .error e) : e ≤ 13 := by
  unfold inB at h
  split at h
  · cases h; decide
  · cases h
theorem iv_number {g : GS} {n : LN} {F : List Fr} {L : List Lv} {code : Nat} {x y : Int} {v u : Tr} (h : IV g n F L) : aInv2 (retG g n F L (aNumber code x y v u g)) := by
  have ret : ∀ z : Int, aInv2 (retG g n F L (match inB z with
    | .ok t => .ok (g, some t)
    | .error e => .error e)) := by
    intro z
    cases e : inB z with
    | ok t => exact iv_1 h
    | error k => exact iv_fail h (inB_e e)
  unfold aNumber
  dsimp only
  by_cases c20 : code = 20
  · rw [if_pos c20]
    exact ret _
  rw [if_neg c20]
  by_cases c21 : code = 21
  · rw [if_pos c21]
    exact ret _
  rw [if_neg c21]
  by_cases c22 : code = 22
  · rw [if_pos c22]
    exact ret _
  rw [if_neg c22]
  by_cases c23 : code = 23
  · rw [if_pos c23]
    by_cases c9 : y = 0
    · rw [if_pos c9]; exact iv_fail h (by decide)
    · rw [if_neg c9]; exact ret _
  rw [if_neg c23]
  by_cases c24 : code = 24
  · rw [if_pos c24]
    by_cases c9 : y = 0
    · rw [if_pos c9]; exact iv_fail h (by decide)
    · rw [if_neg c9]; exact ret _
  rw [if_neg c24]
  by_cases c25 : code = 25
  · rw [if_pos c25]
    exact ret _
  rw [if_neg c25]
  by_cases c26 : code = 26
  · rw [if_pos c26]
    exact iv_1 h
  rw [if_neg c26]
  by_cases c27 : code = 27
  · rw [if_pos c27]
    exact iv_1 h
  rw [if_neg c27]
  by_cases c28 : code = 28
  · rw [if_pos c28]
    by_cases c9 : x < 1
    · rw [if_pos c9]; exact iv_fail h (by decide)
    · rw [if_neg c9]; exact iv_1 ⟨h.1, h.2⟩
  rw [if_neg c28]
  by_cases c29 : code = 29
  · rw [if_pos c29]
    exact iv_1 h
  rw [if_neg c29]
  by_cases c30 : code = 30
  · rw [if_pos c30]
    exact iv_1 h
  rw [if_neg c30]
  exact iv_1 h

