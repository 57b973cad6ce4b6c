/-! run, go and stop of the reference -/
def rLe (B B' : RB4) : Prop := B.1 ≤ B'.1 ∧ B.2.1 ≤ B'.2.1 ∧ B.2.2.1 ≤ B'.2.2.1 ∧ B.2.2.2 ≤ B'.2.2.2
/-- the world at the line's begin is kept -/
def rKp (i : Nat → Int32) (j : Nat → Int64) (a : Nat → Nat → Int32) (b : Nat → Nat → Int64) (B : RB4) (G : GS) (tl : Tr) : Prop := ∃ i0 j0 a0 b0, rW0 i0 j0 a0 b0 B G ∧ (∀ x, x < B.1 → b0 9 x = 3) ∧ rUp a0 b0 B a b B ∧ SN i0 j0 a0 b0 i j a b ∧ (∀ x l, rW a0 B x l → rPm a x l) ∧ rV a0 b0 B tl none (j 101)
theorem rUp_down {a a' : Nat → Nat → Int32} {b b' : Nat → Nat → Int64} {B B' : RB4} (h : rUp a b B a' b' B') : rUp a b B a' b' B := by
  obtain ⟨⟨q1, q2, q3, q4, q5, q6, q7, q8⟩, h2⟩ := h
  exact ⟨⟨Nat.le_refl _, by omega, Nat.le_refl _, by omega, Nat.le_refl _, by omega, Nat.le_refl _, by omega⟩, h2⟩
theorem SN_to {i0 i i' : Nat → Int32} {j0 j j' : Nat → Int64} {a0 a a' : Nat → Nat → Int32} {b0 b b' : Nat → Nat → Int64} (h : SN i0 j0 a0 b0 i j a b) (hi : ∀ q, 59 ≤ q → q ≤ 66 → i' q = i q) (hj : j' 58 = j 58) (ha : ∀ q, q ∈ [49, 50, 51, 52, 53, 54, 57] → a' q = a q) (hb : b' 55 = b 55 ∧ b' 56 = b 56) : SN i0 j0 a0 b0 i' j' a' b' := by
  obtain ⟨⟨s1, s2, s3⟩, ⟨s4, s5, s6⟩, t1, t2, t3, t4, t5, t6, t7, t8, t9⟩ := h
  refine ⟨⟨fun x hx => ?_, fun x hx => ?_, fun x hx => ?_⟩, ⟨fun k t hk ht => ?_, fun x hx => ?_, fun x hx => ?_⟩, ?_⟩
  · rw [ha 49 (by decide), ha 50 (by decide), hb.1]; exact s1 x hx
  · rw [ha 51 (by decide)]; exact s2 x hx
  · rw [ha 52 (by decide), hb.2]; exact s3 x hx
  · rw [ha 53 (by decide)]; exact s4 k t hk ht
  · rw [ha 54 (by decide)]; exact s5 x hx
  · rw [ha 57 (by decide)]; exact s6 x hx
  · rw [hi 59 (by decide) (by decide), hi 60 (by decide) (by decide), hi 61 (by decide) (by decide), hi 62 (by decide) (by decide), hi 63 (by decide) (by decide), hi 64 (by decide) (by decide), hi 65 (by decide) (by decide), hi 66 (by decide) (by decide), hj]
    exact ⟨t1, t2, t3, t4, t5, t6, t7, t8, t9⟩
/-- what is kept stays through a run -/
theorem rKp_run {i : Nat → Int32} {j : Nat → Int64} {a : Nat → Nat → Int32} {b : Nat → Nat → Int64} {i' : Nat → Int32} {j' : Nat → Int64} {a' : Nat → Nat → Int32} {b' : Nat → Nat → Int64} {B B' : RB4} {G : GS} {tl : Tr} (h : rKp i j a b B G tl) (hu : rUp a b B a' b' B') (hf : rFx i j a b i' j' a' b') (hC : rC a' b' B') : rKp i' j' a' b' B G tl := by
  obtain ⟨i0, j0, a0, b0, h1, h2, h3, h4, h5, h6⟩ := h
  refine ⟨i0, j0, a0, b0, h1, h2, rUp_trans h3 (rUp_down hu), SN_to h4 (fun q q1 q2 => hf.1 q (by simp [chI]; omega) (by simp [exI]; omega)) (hf.2.1 58 (by decide) (by decide)) (fun q hq => hf.2.2.1 q (fun hm => by revert hq hm; revert q; decide)) ⟨hf.2.2.2 55 (by decide), hf.2.2.2 56 (by decide)⟩, fun x l hw => ?_, by rw [hf.2.1 101 (by decide) (by decide)]; exact h6⟩
  have hw' : rW a' B' x l := rW_up hu (rW_up h3 hw)
  exact (rC_at hC hw').2.1
/-- the reference has gone back -/
theorem r_backW {n : Nat} {i : Nat → Int32} {j : Nat → Int64} {a : Nat → Nat → Int32} {b : Nat → Nat → Int64} {B : RB4} {G : GS} {tl : Tr} (hn : 200000 ≤ n) (h : rKp i j a b B G tl) : ∃ i' j' a' b', m_Model_putBack n i j a b = some (i', j', a', b', 0) ∧ rW0 i' j' a' b' B G ∧ rKp i' j' a' b' B G tl ∧ rV a' b' B tl none (j' 101) ∧ rFm i j a b i' j' a' b' := by
  obtain ⟨i0, j0, a0, b0, ⟨h1, h2, h3, ⟨h4, h4'⟩, h5, h6, h7⟩, q9, hu, hs, hp, hl⟩ := h
  have hB : B.1 ≤ 120000 ∧ B.2.1 ≤ 300000 ∧ B.2.2.1 ≤ 90000 ∧ B.2.2.2 ≤ 90000 := h1.2.2.2.2
  obtain ⟨i', j', a', b', e1, ⟨⟨g1, g2, g3⟩, ⟨g4, g5, g6⟩, ⟨g7, g8⟩, g9⟩, f1, f2, f3, f4⟩ := r_back (n := n) (W := B.1) hn ⟨h1.1, hB.1⟩ h6.2.2 hs
  have hu2 : rUp a b B a' b' B := rUp_same ⟨f3 1 (by decide), f3 3 (by decide), f3 4 (by decide), f3 12 (by decide), f3 13 (by decide), f3 14 (by decide), f4 10 (by decide)⟩ hB
  have huu := rUp_trans hu hu2
  have hps : (gProcs G).length ≤ 40 := h4.2.1
  have hgl : (gGlob G).length ≤ 64 := h3.2.1
  refine ⟨i', j', a', b', e1, ⟨rB_i h1 (g7 18 (by decide)) (g7 19 (by decide)) (g7 20 (by decide)) (g7 21 (by decide)), ⟨fun x hx => ?_, ?_⟩, rGl_up huu (g7 36 (by decide)) (fun m hm => g3 m (by omega)) h3, ⟨rPr_up huu (g7 33 (by decide)) (fun m hm => g1 m (by omega)) (fun m hm => g2 m (by omega)) h4, h4'⟩, ⟨fun t k ht hk => by rw [g4 k t hk ht]; exact h5.1 t k ht hk, fun x hx => by rw [g5 x hx]; exact h5.2.1 x hx, (g7 47 (by decide)).trans h5.2.2⟩, ⟨g8.trans h6.1, fun k hk hk2 => by rw [g6 _ (Nat.mod_lt _ (by decide))]; exact h6.2.1 k hk hk2, fun k hk => by rw [g6 k hk]; exact h6.2.2 k hk⟩, (g7 46 (by decide)).trans h7⟩, ⟨i0, j0, a0, b0, ⟨h1, h2, h3, ⟨h4, h4'⟩, h5, h6, h7⟩, q9, huu, SN_to hs (fun q q1 q2 => f1 q (by simp; omega)) (f2 58 (by decide)) (fun q hq => f3 q (fun hm => by revert hq hm; revert q; decide)) ⟨f4 55 (by decide), f4 56 (by decide)⟩, fun x l hw => ?_, by rw [f2 101 (by decide)]; exact hl⟩, by rw [f2 101 (by decide)]; exact (rV_up huu _).1 _ hl, ⟨fun q hq => f1 q (fun hm => hq ((show ∀ q ∈ [33, 36, 46, 47, 18, 19, 20, 21], q ∈ chI by decide) q hm)), fun q hq => f2 q (nm_ne hq (by decide)), fun q hq => f3 q (fun hm => hq ((show ∀ q ∈ [29, 30, 31, 34, 37, 38, 39, 40, 41, 42, 43, 44, 45], q ∈ chA by decide) q hm)), fun q hq => f4 q (fun hm => hq ((show ∀ q ∈ [9, 32, 35], q ∈ chB by decide) q hm))⟩⟩
  · obtain ⟨l, k1, k2, k3'⟩ := h2.1 x hx
    refine ⟨l, rW_up huu k1, ?_, Or.inl (g9 x hx)⟩
    unfold rPm
    rw [f3 7 (by decide)]
    exact hp x l k1
  · rw [phi_congr (a := a0) (b := b0) B.1 (fun x hx => ⟨(huu.2.1 x hx).2, by rw [g9 x hx, q9 x hx]⟩)]
    exact h2.2
  · unfold rPm
    rw [f3 7 (by decide)]
    exact hp x l hw
/-- from the line's begin, bd instructions: run and go -/
theorem r_again {n d bd : Nat} {i : Nat → Int32} {j : Nat → Int64} {a : Nat → Nat → Int32} {b : Nat → Nat → Int64} {B : RB4} {G : GS} {tl : Tr} (hn : 200000 ≤ n) (hd : 1400 ≤ d) (hbd : bd ≤ 3000000000) (h : rKp i j a b B G tl) (hg : gOk G) (ho : (gOut G).length + 8001 * 20001 + 1 < 9000000000000000000) (hr1 : B.2.1 + 9 ≤ 88000) (hr2 : B.2.2.1 ≤ 56000 ∧ B.2.2.2 ≤ 56000) (hl : isL tl = true) : ∃ i' j' a' b' B' c', om (m_Model_putBack n i j a b) (fun i j a b _ => m_Model_execute n d i j a b (Int64.ofInt (bd : Int))) = some (i', j', a', b', 0) ∧ Std bd (aBegin G tl) c' ∧ aInv2 c' ∧ rEz i' j' a' b' B' c' ∧ rKp i' j' a' b' B G tl ∧ rLe B B' ∧ rFx i j a b i' j' a' b' ∧ (gOut c'.1).length ≤ (gOut G).length + 8001 * 20001 := by
  obtain ⟨i1, j1, a1, b1, e1, e2, e3, e4, e5⟩ := r_backW hn h
  rw [e1, om_s]
  obtain ⟨i', j', a', b', B', c', f1, f2, f3, f4, f6, f7, f8⟩ := r_exec (n := n) (d := d) (bd := bd) (by omega) hd hbd e2 hg ho hr1 hr2 hl e4
  refine ⟨i', j', a', b', B', c', f1, f4, f6, f7, rKp_run e3 f2 f3 f7.1.2.1, ⟨f2.1.1, f2.1.2.2.1, f2.1.2.2.2.2.1, f2.1.2.2.2.2.2.2.1⟩, ⟨fun q q1 q2 => (f3.1 q q1 q2).trans (e5.1 q q1), fun q q1 q2 => (f3.2.1 q q1 q2).trans (e5.2.1 q q1), fun q q1 => (f3.2.2.1 q q1).trans (e5.2.2.1 q q1), fun q q1 => (f3.2.2.2 q q1).trans (e5.2.2.2 q q1)⟩, f8⟩
theorem rKp_0 {i : Nat → Int32} {j : Nat → Int64} {a : Nat → Nat → Int32} {b : Nat → Nat → Int64} {B : RB4} {G : GS} {tl : Tr} (h : rKp i j a b B G tl) : rKp (upd i 0 0) j a b B G tl := by
  obtain ⟨i0, j0, a0, b0, h1, h2, h3, h4, h5, h6⟩ := h
  exact ⟨i0, j0, a0, b0, h1, h2, h3, SN_to h4 (fun q q1 q2 => upd_ne (by omega)) rfl (fun _ _ => rfl) ⟨rfl, rfl⟩, h5, h6⟩

