/-! the first world -/
theorem xa0_21 : xa0 21 = fun _ => 0 := by
  unfold xa0
  rw [if_neg (show ¬ (21 : Nat) = 0 by decide), if_neg (show ¬ (21 : Nat) = 5 by decide), if_neg (show ¬ (21 : Nat) = 6 by decide), if_neg (show ¬ (21 : Nat) = 7 by decide), if_neg (show ¬ (21 : Nat) = 8 by decide), if_neg (show ¬ (21 : Nat) = 9 by decide), if_neg (show ¬ (21 : Nat) = 20 by decide)]
set_option maxRecDepth 20000 in
theorem p20_is : ∀ t, t < 8 → ((∀ k, k < 4 → -1000000 ≤ (xa0 20 (7 * t + k)).toInt ∧ (xa0 20 (7 * t + k)).toInt ≤ 1000000) ∧ 0 ≤ (xa0 20 (7 * t + 4)).toInt ∧ (xa0 20 (7 * t + 4)).toInt ≤ 11 ∧ 0 ≤ (xa0 20 (7 * t + 5)).toInt ∧ (xa0 20 (7 * t + 5)).toInt ≤ 7 ∧ ((xa0 20 (7 * t + 6)).toInt = 0 ∨ (xa0 20 (7 * t + 6)).toInt = 1)) := by decide +kernel
set_option maxRecDepth 20000 in
theorem p20_ma : ∀ t, t < 8 → ∀ k, k < 7 → ma0 (37 + k) t = xa0 20 (7 * t + k) := by decide +kernel
def G00 (sd : Int32) : GS := ([], [], xa0 20, (fun _ => 0), 0, [], sd, (fun _ => 0), (fun _ _ => 0), 0, 0, 0)
def c00 (sd : Int32) : Cfg := (G00 sd, (0, 0, 0, 0, 0), [], [], 0, none, none)
def w00 (sd : Int32) : AW := (c00 sd, G00 sd, tN 0, false, (fun _ => 0), 0, 0, 0)
theorem inv_0 (sd : Int32) : aInv2 (c00 sd) := by
  refine iv_0 ⟨⟨by show 0 < 8; decide, Nat.zero_le _, (fun p hp => by cases hp), Nat.zero_le _, fun t ht => p20_is t ht, fun k _ => ⟨by show (0 : Int) ≤ (0 : Int32).toInt; decide, by show (0 : Int32).toInt ≤ 7; decide⟩⟩, ⟨Nat.zero_le _, Nat.zero_le _, Nat.zero_le _, Nat.zero_le _, Nat.zero_le _⟩, ⟨(fun l hl => by cases hl), Nat.zero_le _, Nat.zero_le _, Nat.le_refl _, rfl, (fun f hf => by cases hf), (fun f hf => by cases hf)⟩, fun e => absurd (show (0 : Nat) = 1 from e) (by decide)⟩
theorem sA_21 : ∀ p, p < 22 → sA (xa0 0) p = sA (lf c21) p := fun p hp => sA_congr p (fun x hx => xa0_0 x (by omega))
theorem cWd_0 {p : Nat} {l : List Nat} (hp : 2 ≤ p ∧ p + l.length < 21) (hl : l ≠ [] ∧ l.length ≤ 30 ∧ okLs l) (h : (∀ k (h : k < l.length), c21.getD (p + k) 0 = l[k]'h) ∧ c21.getD (p + l.length) 0 = 0 ∧ c21.getD (p - 1) 0 = 128 + aLex l ∧ sA (lf c21) (p - 1) = 0) : cWd (xa0 0) 21 p l := by
  refine ⟨by omega, hl.1, hl.2.1, hp.2, hl.2.2, fun k hk => ?_, ?_, Or.inl ⟨?_, hp.1, ?_⟩⟩
  · rw [xa0_0 _ (by omega), h.1 k hk]
  · rw [xa0_0 _ (by omega), h.2.1]
  · rw [xa0_0 _ (by omega), h.2.2.1]
  · rw [sA_21 _ (by omega)]; exact h.2.2.2
set_option maxRecDepth 20000 in
theorem WC_0 (sd : Int32) : WC xg0 (xi0 sd) xa0 0 (w00 sd) := by
  have hs : sA (xa0 0) 21 = 0 := by rw [sA_21 21 (by decide)]; decide +kernel
  refine ⟨21, 21, 0, ⟨⟨⟨rfl, ⟨Nat.le_refl _, hs⟩, by show 21 ≤ 16384; decide, Nat.le_refl _, by show 16384 ≤ 340000; decide, lexOk_0, ?_, ?_, ?_⟩, ⟨⟨rfl, Nat.zero_le _, fun k hk => absurd hk (Nat.not_lt_zero _)⟩, ⟨rfl, Nat.zero_le _, fun k hk => absurd hk (Nat.not_lt_zero _)⟩, fun k _ => rfl, fun k _ => by rw [xa0_21]; rfl, rfl, ⟨0, rfl, by decide, rfl, fun k hk => absurd hk (Nat.not_lt_zero _)⟩, rfl, ?_⟩, ⟨rfl, rfl, rfl, rfl, rfl⟩, ⟨rfl, Nat.zero_le _, fun k hk => absurd hk (Nat.not_lt_zero _)⟩, ⟨rfl, rfl, rfl, rfl⟩⟩, fun e => absurd (show (0 : Nat) = 1 from e) (by decide)⟩, ⟨inv_0 sd, Or.inl (by show ¬ (0 : Nat) = 1; decide), (fun x hx => by cases hx), Nat.le_refl _⟩, ⟨⟨rfl, Nat.zero_le _, fun k hk => absurd hk (Nat.not_lt_zero _), fun k => by show 0 < 256; decide⟩, rfl, by decide, fun e => absurd rfl e, rfl⟩, ⟨hs, fun p h1 h2 => ?_⟩, ⟨Nat.le_refl _, by show 16384 ≤ 340000; decide⟩, rfl, (fun e => by cases e), fun e => absurd (show (0 : Nat) = 1 from e) (by decide), by decide, Nat.le_refl _⟩
  · exact cV_tW.mpr ⟨2, rfl, cWd_0 (by decide) ⟨by decide, by decide, by unfold okLs; decide⟩ (by decide +kernel)⟩
  · exact cV_tW.mpr ⟨8, rfl, cWd_0 (by decide) ⟨by decide, by decide, by unfold okLs; decide⟩ (by decide +kernel)⟩
  · exact cV_tW.mpr ⟨15, rfl, cWd_0 (by decide) ⟨by decide, by decide, by unfold okLs; decide⟩ (by decide +kernel)⟩
  · exact ⟨⟨rfl, rfl, rfl, rfl, rfl, rfl, rfl, rfl, rfl, rfl, rfl, rfl, rfl, rfl, rfl, rfl, rfl, rfl, rfl, rfl, rfl, rfl, rfl, rfl, rfl, rfl, rfl, rfl⟩, fun x _ => rfl, Nat.le_refl _, fun x hx => rfl, Nat.le_refl _, fun x hx => rfl, Nat.le_refl _⟩
  · rw [xa0_0 p (by omega)]
    have hb : ∀ p, p < 22 → c21.getD p 0 < 1000 := by decide +kernel
    have := hb p (by omega)
    rw [cl_n (by omega)]
    omega
theorem WR_0f (sd : Int32) : WR (mi0 sd) (fun _ => 0) ma0 (fun _ _ => 0) 0 (w00 sd) := by
  refine ⟨⟨(0, 0, 0, 0), ⟨⟨⟨rfl, rfl, rfl, rfl, by decide, by decide, by decide, by decide⟩, ⟨fun x hx => absurd hx (Nat.not_lt_zero _), Nat.le_refl _⟩, ⟨rfl, Nat.zero_le _, fun k hk => absurd hk (Nat.not_lt_zero _)⟩, ⟨⟨rfl, Nat.zero_le _, fun k hk => absurd hk (Nat.not_lt_zero _)⟩, (fun p hp => by cases hp)⟩, ⟨fun t k ht hk => p20_ma t ht k hk, fun x _ => rfl, rfl⟩, ⟨rfl, fun k hk => absurd hk (Nat.not_lt_zero _), fun k _ => ⟨0, by decide, rfl⟩⟩, rfl⟩, ⟨Nat.zero_le _, Nat.zero_le _, Nat.zero_le _⟩, ⟨trivial, trivial, rfl⟩, ⟨rfl, rfl, rfl, rfl, rfl, rfl⟩, fun _ => ⟨rfl, rfl, rfl⟩, fun e => absurd (show (0 : Nat) = 1 from e) (by decide)⟩, Nat.le_refl _, (fun e => by cases e), fun _ => ⟨by show ¬ (0 : Nat) = 1; decide, Or.inl rfl⟩⟩, inv_0 sd, ⟨rfl, Nat.zero_le _, fun k hk => absurd hk (Nat.not_lt_zero _), fun k => by show 0 < 256; decide⟩, ⟨rfl, by decide, fun e => absurd rfl e⟩, fun e => absurd (show (0 : Nat) = 1 from e) (by decide)⟩
theorem RR_0 (sd : Int32) : RR (xi0 sd) xa0 xg0 (mi0 sd) (fun _ => 0) ma0 (fun _ _ => 0) 142 2552709 0 :=
  ⟨w00 sd, WC_0 sd, WR_0f sd, fun e => absurd (show (0 : Nat) = 1 from e) (by decide), 0, 0, by decide, by decide, by decide, by show 0 + 98304 ≤ gPot xg0; decide⟩

