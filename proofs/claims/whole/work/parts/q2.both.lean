/-! the two sides together -/
def RR : RTy := fun xi xa xg mi mj ma mb kc ks c => ∃ w : AW, WC xg xi xa c w ∧ WR mi mj ma mb c w ∧ (cSt w.1 = 1 → ∃ b, b ≤ cDone w.1 ∧ Std b (aBegin w.2.1 w.2.2.1) w.1) ∧ ∃ k1 k2, kc ≤ 142 + c + k1 ∧ ks ≤ 2552709 + 6 * c + k2 ∧ 16384 * k1 ≤ k2 ∧ k2 + 98304 ≤ gPot xg
theorem gPot_le (g : Nat → Nat) : gPot g ≤ 2720000 := by
  have h : ∀ x, hPot x ≤ 1360000 := fun x => by
    unfold hPot
    split <;> omega
  have h1 := h (g 0)
  have h2 := h (g 1)
  unfold gPot
  omega
theorem RR_room {xg xg' : Nat → Nat} {kc ks c : Nat} {k : Nat × Nat} (hc : c < 512) (h : ∃ k1 k2, kc ≤ 142 + c + k1 ∧ ks ≤ 2552709 + 6 * c + k2 ∧ 16384 * k1 ≤ k2 ∧ k2 + 98304 ≤ gPot xg) (hp : Pot xg xg' k) : (kc + k.1 ≤ 601024 ∧ ks + k.2 ≤ 7293000) ∧ ∃ k1 k2, kc + k.1 ≤ 142 + (c + 1) + k1 ∧ ks + k.2 ≤ 2552709 + 6 * (c + 1) + k2 ∧ 16384 * k1 ≤ k2 ∧ k2 + 98304 ≤ gPot xg' := by
  obtain ⟨k1, k2, h1, h2, h3, h4⟩ := h
  obtain ⟨p1, p2⟩ := hp
  have := gPot_le xg'
  exact ⟨⟨by omega, by omega⟩, k1 + k.1, k2 + k.2, by omega, by omega, by omega, by omega⟩
theorem RR_bad {xg : Nat → Nat} {kc ks c : Nat} (hc : c < 512) (h : ∃ k1 k2, kc ≤ 142 + c + k1 ∧ ks ≤ 2552709 + 6 * c + k2 ∧ 16384 * k1 ≤ k2 ∧ k2 + 98304 ≤ gPot xg) : (kc + 1 ≤ 601024 ∧ ks + 6 ≤ 7293000) ∧ ∃ k1 k2, kc + 1 ≤ 142 + (c + 1) + k1 ∧ ks + 6 ≤ 2552709 + 6 * (c + 1) + k2 ∧ 16384 * k1 ≤ k2 ∧ k2 + 98304 ≤ gPot xg := by
  obtain ⟨k1, k2, h1, h2, h3, h4⟩ := h
  have := gPot_le xg
  exact ⟨⟨by omega, by omega⟩, k1, k2, by omega, by omega, by omega, by omega⟩
theorem RR_same {xg : Nat → Nat} {kc ks c : Nat} (h : ∃ k1 k2, kc ≤ 142 + c + k1 ∧ ks ≤ 2552709 + 6 * c + k2 ∧ 16384 * k1 ≤ k2 ∧ k2 + 98304 ≤ gPot xg) : ∃ k1 k2, kc ≤ 142 + (c + 1) + k1 ∧ ks ≤ 2552709 + 6 * (c + 1) + k2 ∧ 16384 * k1 ≤ k2 ∧ k2 + 98304 ≤ gPot xg := by
  obtain ⟨k1, k2, h1, h2, h3, h4⟩ := h
  exact ⟨k1, k2, by omega, by omega, by omega, by omega⟩
theorem Std_run {b e : Nat} {s c c' : Cfg} (hb : b ≤ e) (h : Std b s c) (h' : Std e c c') : Std e s c' := by
  obtain ⟨⟨q, rfl⟩, h2⟩ := h
  obtain ⟨⟨k, rfl⟩, h4⟩ := h'
  obtain ⟨q1, e1⟩ := path_up b q s
  refine ⟨⟨q1 + k, ?_⟩, h4⟩
  rw [aIt_add, e1 e hb]
theorem Std_in {b : Nat} {s c : Cfg} (h : Std b s c) (hs : cSt c = 1) : ∃ b, b ≤ cDone c ∧ Std b s c := by
  refine ⟨b, ?_, h⟩
  rcases h.2 with q | q
  · exact absurd hs q
  · exact q.2.2
theorem WC_gl {g : Nat → Nat} {i : Nat → Int32} {a : Nat → Nat → Int32} {cc : Nat} {w : AW} (h : WC g i a cc w) (hcc : cc < 512) : ∃ Z, gL Z (cGP w.1) ∧ Z + w.2.2.2.2.2.1 ≤ 10240 := by
  obtain ⟨c, G0, tl, bk, tp, N, fk, fp⟩ := w
  obtain ⟨T, kt, B, h1, ⟨_, _, h2⟩, h3, h4, h5, h6, h7, h8, h9, h10⟩ := h
  exact ⟨B, h2, by show B + N ≤ 10240; omega⟩
theorem WC_inv {g : Nat → Nat} {i : Nat → Int32} {a : Nat → Nat → Int32} {cc : Nat} {w : AW} (h : WC g i a cc w) : aInv2 w.1 ∧ atRest w.1 := by
  obtain ⟨c, G0, tl, bk, tp, N, fk, fp⟩ := w
  obtain ⟨T, kt, B, h1, ⟨h2, h3, _⟩, _⟩ := h
  exact ⟨h2, h3⟩
theorem WR_01 {i : Nat → Int32} {j : Nat → Int64} {a : Nat → Nat → Int32} {b : Nat → Nat → Int64} {cc cc' : Nat} {w : AW} {x : Int32} (h : WR i j a b cc w) (hcc : cc ≤ cc') : WR (upd i 0 x) j a b cc' w := WR_i h hcc (fun q h1 _ _ => upd_ne h1) (fun _ _ _ _ => rfl)
theorem RR_none : sm_none RR := by
  intro xi xa xg mi mj ma mb kc ks c hc h
  obtain ⟨w, h1, h2, h3, h4⟩ := h
  refine ⟨w, cc_up h1 (Nat.le_succ _), ?_, h3, RR_same h4⟩
  exact WR_i h2 (Nat.le_succ _) (fun _ _ _ _ => rfl) (fun _ _ _ _ => rfl)
theorem RR_feed : sm_feed 1000000 RR := by
  intro xi xa xg mi mj ma mb kc ks c hc h w1 w2 w3 w4 w5
  obtain ⟨⟨cf, G0, tl, bk, tp, N, fk, fp⟩, h1, h2, h3, h4⟩ := h
  rcases W_feed (n := 1000000) (v1 := w1) (v2 := w2) (v3 := w3) (v4 := w4) (v5 := w5) (by decide) h1 with ⟨q1, q2⟩ | ⟨q1, i', a', q2, q3⟩
  · exact ⟨xi, xa, _, _, _, _, _, q2, R_feed0 h2 q1, _, cc_up h1 (Nat.le_succ _), WR_0 h2 (Nat.le_succ _), h3, RR_same h4⟩
  · obtain ⟨mi2, ma2, q4, q5⟩ := R_feed (n := 1000000) (v1 := w1) (v2 := w2) (v3 := w3) (v4 := w4) (v5 := w5) (by decide) h2 q1
    exact ⟨i', a', mi2, mj, ma2, mb, _, q2, q4, _, q3, q5, h3, RR_same h4⟩
theorem RR_end : sm_end 1000000 RR := by
  intro xi xa xg mi mj ma mb kc ks c hc h w1
  obtain ⟨⟨cf, G0, tl, bk, tp, N, fk, fp⟩, h1, h2, h3, h4⟩ := h
  rcases W_end (n := 1000000) (x := w1) h1 with ⟨q1, q2⟩ | ⟨z, q1, q2, i', q3, q4⟩
  · exact ⟨xi, xa, _, _, _, _, _, q2, R_end0 h2 q1, _, cc_up h1 (Nat.le_succ _), WR_0 h2 (Nat.le_succ _), h3, RR_same h4⟩
  · subst q2
    obtain ⟨mi2, q5, q6⟩ := R_end (n := 1000000) h2 q1
    exact ⟨i', xa, mi2, mj, ma, mb, _, q3, q5, _, q4, q6, h3, RR_same h4⟩
theorem RR_define : sm_define 1000000 RR := by
  intro xi xa xg mi mj ma mb kc ks c hc h
  obtain ⟨w, h1, h2, h3, h4⟩ := h
  obtain ⟨Z, z1, z2⟩ := WC_gl h1 hc
  obtain ⟨i', a', g', k, q1, q2, q3⟩ := W_define (n := 1000000) (by decide) hc h1
  obtain ⟨mi2, ma2, mb2, q4, q5⟩ := R_define (n := 1000000) (by decide) (by omega) h2 z1 z2 (WC_inv q2).1
  obtain ⟨⟨r1, r2⟩, r3⟩ := RR_room hc h4 q3
  refine ⟨i', a', g', k, mi2, mj, ma2, mb2, _, q1, q4, r1, r2, _, q2, q5, ?_, r3⟩
  obtain ⟨cf, G0, tl, bk, tp, N, fk, fp⟩ := w
  unfold aDefineW
  dsimp only
  rcases Classical.em (cSt cf = 1) with e | e
  · rw [if_pos e]; exact h3
  rw [if_neg e]
  split
  · exact h3
  · split
    · exact h3
    · intro hs; exact absurd hs e
theorem RR_line : sm_line 1000000 RR := by
  intro xi xa xg mi mj ma mb kc ks c hc h
  obtain ⟨⟨cf, G0, tl, bk, tp, N, fk, fp⟩, h1, h2, h3, h4⟩ := h
  obtain ⟨Z, z1, z2⟩ := WC_gl h1 hc
  have z2 : Z + N ≤ 10240 := z2
  rcases W_line (n := 1000000) (by decide) hc h1 with ⟨e, q1⟩ | ⟨e, e2, i', a', g', k, q1, q2, q3⟩ | ⟨e, e2, i', a', g', k, c', q1, q2, q3, q4⟩
  · rcases R_line (n := 1000000) (d := 2030) (by decide) (by decide) (by omega) h2 z1 (by omega) with ⟨_, p1⟩ | ⟨p, _⟩ | ⟨p, _⟩
    · obtain ⟨⟨r1, r2⟩, r3⟩ := RR_room hc h4 (Pot_refl xg)
      exact ⟨xi, xa, xg, (0, 0), _, _, _, _, _, q1, p1, r1, r2, _, cc_up h1 (Nat.le_succ _), WR_0 h2 (Nat.le_succ _), h3, r3⟩
    · exact absurd e p
    · exact absurd e p
  · rcases R_line (n := 1000000) (d := 2030) (by decide) (by decide) (by omega) h2 z1 (by omega) with ⟨p, _⟩ | ⟨_, _, mi2, ma2, mb2, p1, p2⟩ | ⟨_, p, _⟩
    · exact absurd p e
    · obtain ⟨⟨r1, r2⟩, r3⟩ := RR_room hc h4 q3
      exact ⟨i', a', g', k, mi2, mj, ma2, mb2, _, q1, p1, r1, r2, _, q2, p2, h3, r3⟩
    · exact absurd p e2
  · rcases R_line (n := 1000000) (d := 2030) (by decide) (by decide) (by omega) h2 z1 (by omega) with ⟨p, _⟩ | ⟨_, p, _⟩ | ⟨_, _, mi2, mj2, ma2, mb2, c2, p1, p2, p3⟩
    · exact absurd p e
    · exact absurd e2 p
    · obtain ⟨⟨r1, r2⟩, r3⟩ := RR_room hc h4 q4
      have ec := Std_one q2 p2
      subst ec
      exact ⟨i', a', g', k, mi2, mj2, ma2, mb2, _, q1, p1, r1, r2, _, q3, p3, fun hs => ⟨0, Nat.zero_le _, q2⟩, r3⟩
theorem RR_fault : sm_fault 1000000 RR := by
  intro xi xa xg mi mj ma mb kc ks c hc h w1
  obtain ⟨⟨cf, G0, tl, bk, tp, N, fk, fp⟩, h1, h2, h3, h4⟩ := h
  exact ⟨_, _, _, _, _, W_fault h1, R_fault h2, _, cc_up h1 (Nat.le_succ _), WR_0 h2 (Nat.le_succ _), h3, RR_same h4⟩
theorem i32_nat {x : Int32} (h : ¬ x < 1) : 1 ≤ x.toNatClampNeg ∧ x.toNatClampNeg < 2147483648 ∧ x = nI x.toNatClampNeg := by
  have h1 : 1 ≤ x.toInt := by
    rw [Int32.lt_iff_toInt_lt] at h
    have : (1 : Int32).toInt = 1 := rfl
    omega
  have h2 := x.toInt_lt
  have e : ((x.toNatClampNeg : Nat) : Int) = x.toInt := by
    show ((x.toInt.toNat : Nat) : Int) = x.toInt
    omega
  refine ⟨by omega, by omega, ?_⟩
  rw [nI_ofInt, e, Int32.ofInt_toInt]
theorem i32_nat0 {x : Int32} (h : ¬ x < 0) : x.toNatClampNeg < 2147483648 ∧ x = nI x.toNatClampNeg := by
  have h1 : 0 ≤ x.toInt := by
    rw [Int32.lt_iff_toInt_lt] at h
    have : (0 : Int32).toInt = 0 := rfl
    omega
  have h2 := x.toInt_lt
  have e : ((x.toNatClampNeg : Nat) : Int) = x.toInt := by
    show ((x.toInt.toNat : Nat) : Int) = x.toInt
    omega
  refine ⟨by omega, ?_⟩
  rw [nI_ofInt, e, Int32.ofInt_toInt]
theorem RR_run : sm_run 1000000 RR := by
  intro xi xa xg mi mj ma mb kc ks c hc h w1
  obtain ⟨⟨cf, G0, tl, bk, tp, N, fk, fp⟩, h1, h2, h3, h4⟩ := h
  obtain ⟨i', a', g', k, c', q1, q2, q3, q4, q5, q6⟩ := W_run (n := 1000000) (x := w1) (by decide) hc h1
  obtain ⟨⟨r1, r2⟩, r3⟩ := RR_room hc h4 q6
  have hs := WC_st q5
  rcases Classical.em (cSt cf ≠ 1 ∨ w1 < 1) with e | e
  · have ec : c' = cf := by
      rcases Classical.em (cSt cf = 1) with e1 | e1
      · have hx : w1 < 1 := by
          rcases e with e | e
          · exact absurd e1 e
          · exact e
        have hz : w1.toNatClampNeg = 0 := by
          have h9 : w1.toInt < 1 := by
            rw [Int32.lt_iff_toInt_lt] at hx
            exact hx
          show w1.toInt.toNat = 0
          omega
        have q := q3 e1
        rw [hz] at q
        exact Std_one q ⟨⟨0, rfl⟩, rest_stands (WC_inv h1).2 (fun _ => Nat.le_refl _)⟩
      · exact q4 e1
    subst ec
    obtain ⟨p1, p2⟩ := R_run0 (n := 1000000) (d := 2030) (x := w1) h2 e
    rw [Nat.sub_self] at q1
    exact ⟨i', a', g', k, _, _, _, _, _, q1, p1, r1, r2, _, q5, p2, h3, r3⟩
  · have e1 : cSt cf = 1 := Classical.byContradiction (fun q => e (Or.inl q))
    obtain ⟨x1, x2, x3⟩ := i32_nat (fun q => e (Or.inr q))
    obtain ⟨b, b1, b2⟩ := h3 e1
    have hstd := Std_run (Nat.le_trans b1 (Nat.le_add_right _ _)) b2 (q3 e1)
    obtain ⟨mi2, mj2, ma2, mb2, p1, p2⟩ := R_run (n := 1000000) (d := 2030) (z := w1.toNatClampNeg) (by decide) (by decide) ⟨x1, x2⟩ (by omega) h2 e1 hstd q2 hs.2.2.2
    rw [← x3] at p1
    exact ⟨i', a', g', k, mi2, mj2, ma2, mb2, _, q1, p1, r1, r2, _, q5, p2, fun hs => Std_in hstd hs, r3⟩
theorem RR_go : sm_go 1000000 RR := by
  intro xi xa xg mi mj ma mb kc ks c hc h w1
  obtain ⟨⟨cf, G0, tl, bk, tp, N, fk, fp⟩, h1, h2, h3, h4⟩ := h
  rcases W_go (n := 1000000) (x := w1) (by decide) hc h1 with ⟨e, q1⟩ | ⟨e, i', a', g', k, c', q1, q2, q3, q4⟩
  · obtain ⟨p1, p2⟩ := R_go0 (n := 1000000) (d := 2030) (x := w1) h2 e
    obtain ⟨⟨r1, r2⟩, r3⟩ := RR_room hc h4 (Pot_refl xg)
    exact ⟨xi, xa, xg, (0, 0), _, _, _, _, _, q1, p1, r1, r2, _, cc_up h1 (Nat.le_succ _), p2, h3, r3⟩
  · obtain ⟨⟨r1, r2⟩, r3⟩ := RR_room hc h4 q4
    obtain ⟨x2, x3⟩ := i32_nat0 (x := w1) (fun q => e (Or.inr (Or.inl q)))
    have hbk : bk = true := by
      cases bk with
      | true => rfl
      | false => exact absurd (Or.inl rfl) e
    have hs := WC_st h1
    have hle : w1.toNatClampNeg ≤ cDone cf := by
      rcases Nat.lt_or_ge (cDone cf) w1.toNatClampNeg with q | q
      · refine absurd (Or.inr (Or.inr ?_)) e
        rw [x3]
        exact nI_lt q (by omega)
      · exact q
    obtain ⟨mi2, mj2, ma2, mb2, p1, p2⟩ := R_go (n := 1000000) (d := 2030) (z := w1.toNatClampNeg) (by decide) (by decide) (by omega) h2 hbk hle q2
    rw [← x3] at p1
    exact ⟨i', a', g', k, mi2, mj2, ma2, mb2, _, q1, p1, r1, r2, _, q3, p2, fun hs => Std_in q2 hs, r3⟩
theorem RR_stop : sm_stop 1000000 RR := by
  intro xi xa xg mi mj ma mb kc ks c hc h
  obtain ⟨⟨cf, G0, tl, bk, tp, N, fk, fp⟩, h1, h2, h3, h4⟩ := h
  obtain ⟨i', a', q1, q2⟩ := W_stop (n := 1000000) (by decide) h1
  obtain ⟨mi2, p1, p2⟩ := R_stop (n := 1000000) h2
  refine ⟨i', a', mi2, mj, ma, mb, _, q1, p1, _, q2, p2, fun hs => ?_, RR_same h4⟩
  have hs : cSt (aHalt cf) = 1 := hs
  unfold aHalt at hs
  rcases Classical.em (cSt cf = 1) with e | e
  · rw [if_pos e] at hs
    exact absurd (show (4 : Nat) = 1 from hs) (by decide)
  · rw [if_neg e] at hs
    exact absurd hs e
theorem RR_look : sm_look 1000000 RR := by
  intro xi xa xg mi mj ma mb kc ks c hc h w1
  obtain ⟨w, h1, h2, h3, h4⟩ := h
  exact ⟨_, _, _, _, _, W_look h1, R_look (by omega) h2, _, cc_up h1 (Nat.le_succ _), WR_0 h2 (Nat.le_succ _), h3, RR_same h4⟩

theorem RR_turtle : sm_turtle 1000000 RR := by
  intro xi xa xg mi mj ma mb kc ks c hc h w1 w2
  obtain ⟨⟨cf, G0, tl, bk, tp, N, fk, fp⟩, h1, h2, h3, h4⟩ := h
  exact ⟨_, _, _, _, _, W_turtle h1, R_turtle h2, _, cc_up h1 (Nat.le_succ _), WR_0 h2 (Nat.le_succ _), h3, RR_same h4⟩
theorem RR_dot : sm_dot 1000000 RR := by
  intro xi xa xg mi mj ma mb kc ks c hc h w1 w2
  obtain ⟨⟨cf, G0, tl, bk, tp, N, fk, fp⟩, h1, h2, h3, h4⟩ := h
  exact ⟨_, _, _, _, _, W_dot h1, R_dot h2, _, cc_up h1 (Nat.le_succ _), WR_0 h2 (Nat.le_succ _), h3, RR_same h4⟩
theorem RR_out : sm_out 1000000 RR := by
  intro xi xa xg mi mj ma mb kc ks c hc h w1
  obtain ⟨⟨cf, G0, tl, bk, tp, N, fk, fp⟩, h1, h2, h3, h4⟩ := h
  exact ⟨_, _, _, _, _, W_out h1, R_out (by omega) h2, _, cc_up h1 (Nat.le_succ _), WR_0 h2 (Nat.le_succ _), h3, RR_same h4⟩
theorem RR_name : sm_name 1000000 RR := by
  intro xi xa xg mi mj ma mb kc ks c hc h w1 w2
  obtain ⟨⟨cf, G0, tl, bk, tp, N, fk, fp⟩, h1, h2, h3, h4⟩ := h
  exact ⟨_, _, _, _, _, W_name (by decide) h1, R_name h2, _, cc_up h1 (Nat.le_succ _), WR_0 h2 (Nat.le_succ _), h3, RR_same h4⟩
theorem RR_procedure : sm_procedure 1000000 RR := by
  intro xi xa xg mi mj ma mb kc ks c hc h w1 w2
  obtain ⟨⟨cf, G0, tl, bk, tp, N, fk, fp⟩, h1, h2, h3, h4⟩ := h
  exact ⟨_, _, _, _, _, W_procedure (by decide) h1, R_procedure h2, _, cc_up h1 (Nat.le_succ _), WR_0 h2 (Nat.le_succ _), h3, RR_same h4⟩
theorem RR_call : sm_call 1000000 RR := by
  intro xi xa xg mi mj ma mb kc ks c hc h w1 w2
  obtain ⟨⟨cf, G0, tl, bk, tp, N, fk, fp⟩, h1, h2, h3, h4⟩ := h
  exact ⟨_, _, _, _, _, W_call (by decide) h1, R_call (by decide) h2, _, cc_up h1 (Nat.le_succ _), WR_0 h2 (Nat.le_succ _), h3, RR_same h4⟩
theorem RR_sum : sm_sum 1000000 RR := by
  intro xi xa xg mi mj ma mb kc ks c hc h 
  obtain ⟨⟨cf, G0, tl, bk, tp, N, fk, fp⟩, h1, h2, h3, h4⟩ := h
  exact ⟨_, _, _, _, _, W_sum (by decide) h1, R_sum (by decide) h2, _, cc_up h1 (Nat.le_succ _), WR_0 h2 (Nat.le_succ _), h3, RR_same h4⟩
theorem RR_value : sm_value 1000000 RR := by
  intro xi xa xg mi mj ma mb kc ks c hc h w1 w2
  obtain ⟨⟨cf, G0, tl, bk, tp, N, fk, fp⟩, h1, h2, h3, h4⟩ := h
  obtain ⟨i', a', q1, q2⟩ := W_value (n := 1000000) (x := w1) (y := w2) (by decide) h1
  obtain ⟨mi2, ma2, p1, p2⟩ := R_value (n := 1000000) (x := w1) (y := w2) (by decide) h2
  exact ⟨i', a', mi2, mj, ma2, mb, _, q1, p1, _, q2, p2, h3, RR_same h4⟩
theorem RR_place_bad : sm_place_bad 1000000 RR := by
  intro xi xa xg mi mj ma mb kc ks c hc h w1 w2 w3 hx
  obtain ⟨w, h1, h2, h3, h4⟩ := h
  obtain ⟨⟨r1, r2⟩, r3⟩ := RR_bad hc h4
  exact ⟨_, _, _, _, _, R_place0 hx, upd_at, r1, r2, w, cc_up h1 (Nat.le_succ _), WR_01 h2 (Nat.le_succ _), h3, r3⟩
theorem RR_side_bad : sm_side_bad 1000000 RR := by
  intro xi xa xg mi mj ma mb kc ks c hc h w1 w2 w3 hx
  obtain ⟨w, h1, h2, h3, h4⟩ := h
  obtain ⟨⟨r1, r2⟩, r3⟩ := RR_bad hc h4
  exact ⟨_, _, _, _, _, R_side0 hx, upd_at, r1, r2, w, cc_up h1 (Nat.le_succ _), WR_01 h2 (Nat.le_succ _), h3, r3⟩
theorem RR_place_ok : sm_place_ok 1000000 RR := by
  intro xi xa xg mi mj ma mb kc ks c hc h w1 w2 w3 hx
  obtain ⟨⟨cf, G0, tl, bk, tp, N, fk, fp⟩, h1, h2, h3, h4⟩ := h
  exact ⟨_, _, _, _, _, R_place h2 hx, upd_at, (W_place h1).1, _, cc_up h1 (Nat.le_succ _), WR_0 h2 (Nat.le_succ _), h3, RR_same h4⟩
theorem RR_side_ok : sm_side_ok 1000000 RR := by
  intro xi xa xg mi mj ma mb kc ks c hc h w1 w2 w3 hx
  obtain ⟨⟨cf, G0, tl, bk, tp, N, fk, fp⟩, h1, h2, h3, h4⟩ := h
  exact ⟨_, _, _, _, _, R_side h2 hx, upd_at, (W_place h1).2, _, cc_up h1 (Nat.le_succ _), WR_0 h2 (Nat.le_succ _), h3, RR_same h4⟩

