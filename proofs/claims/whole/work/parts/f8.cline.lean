/-! line, as the class does it -/
def keI (i : Nat → Int32) : Nat → Int32 := upd (upd (upd (upd (upd (upd (upd (upd i 14 (i 12)) 16 (i 15)) 18 (i 17)) 21 (i 19)) 22 (i 20)) 2 (i 45)) 1 (i 8)) 3 1
def keA (a : Nat → Nat → Int32) : Nat → Nat → Int32 := updA (updA (updA (updA (updA (updA a 14 (va_cpy (a 11) (a 14) 0 0 64)) 18 (va_cpy (a 16) (a 18) 0 0 40)) 19 (va_cpy (a 17) (a 19) 0 0 40)) 24 (va_cpy (a 20) (a 24) 0 0 56)) 25 (va_cpy (a 21) (a 25) 0 0 4096)) 27 (va_cpy (a 26) (a 27) 0 0 2000)
theorem h_keep {n : Nat} {g : Nat → Nat} {i : Nat → Int32} {a : Nat → Nat → Int32} : m_World_keep n g i a = some (keI i, keA a, nI 0) := by
  unfold m_World_keep m_Names_keep m_Procedures_keep m_Turtles_keep m_Output_keep
  simp (disch := omega) only [i32_lit, cy_n, ob1_s, ob_s, cl_n]
  rfl
theorem sz_1 : ∀ (m : List Tr), (∀ x ∈ m, tOk x 0) → tSz (tL m) ≤ shL m + 1 := by
  intro m
  induction m with
  | nil => intro _; decide
  | cons x m ih =>
    intro hx
    have i1 := ih (fun y hy => hx y (List.mem_cons_of_mem _ hy))
    have i2 := (sz_sh x).1 (hx x List.mem_cons_self)
    show tSz x + tSz (tL m) ≤ shL ([x] ++ m) + 1
    rw [shL_add, shL_one]
    omega
/-- line -/
theorem W_line {n : Nat} {g : Nat → Nat} {i : Nat → Int32} {a : Nat → Nat → Int32} {cc : Nat} {c : Cfg} {G0 : GS} {tl : Tr} {bk : Bool} {tp : Nat → Nat} {N fk fp : Nat} (hn : 1000000 ≤ n) (hcc : cc < 512) (h : WC g i a cc (c, G0, tl, bk, tp, N, fk, fp)) : (cSt c = 1 ∧ m_World_line n g i a = some (i, a, g, (0, 0), -20)) ∨ (cSt c ≠ 1 ∧ rdF (aRead false (gProcs c.1) tp N) ≠ 0 ∧ ∃ i' a' g' k, m_World_line n g i a = some (i', a', g', k, -nI (rdF (aRead false (gProcs c.1) tp N))) ∧ WC g' i' a' (cc + 1) (c, G0, tl, bk, tp, 0, rdF (aRead false (gProcs c.1) tp N), rdP (aRead false (gProcs c.1) tp N)) ∧ Pot g g' k) ∨ (cSt c ≠ 1 ∧ rdF (aRead false (gProcs c.1) tp N) = 0 ∧ ∃ i' a' g' k c', m_World_line n g i a = some (i', a', g', k, nI ((rdK (aRead false (gProcs c.1) tp N)).headD []).length) ∧ Std 0 (aBegin c.1 (tL ((rdK (aRead false (gProcs c.1) tp N)).headD []))) c' ∧ WC g' i' a' (cc + 1) (c', c.1, tL ((rdK (aRead false (gProcs c.1) tp N)).headD []), true, tp, 0, 0, 0) ∧ Pot g g' k) := by
  obtain ⟨s1, s2, s3, s4⟩ := WC_st h
  unfold m_World_line
  rcases Classical.em (cSt c = 1) with e | e
  · left
    exact ⟨e, if_pos (show i 35 = (1 : Int32) by rw [s1, e]; rfl)⟩
  right
  rw [if_neg (show ¬ i 35 = (1 : Int32) by rw [s1]; exact fun e9 => e ((nI_eq (b := 1) (by omega) (by decide)).mp e9))]
  obtain ⟨i1, a1, g1, k1, T1, kt, B, r1, r2, r3, r4, r5, r6, r7, r8, r9, r10, r11, r12, r13, r14, r15, r16⟩ := W_read (n := n) (dfn := false) (by omega) hcc h e
  have htp : ∀ k, tp k < 256 := by
    obtain ⟨T, kt, B, h1, h2, h3, _⟩ := h
    exact h3.1.2.2.2
  rw [show m_Reader_read n g i a (0 : Int32) = m_Reader_read n g i a (b1 false) from rfl, r1]
  rcases Classical.em (rdF (aRead false (gProcs c.1) tp N) = 0) with c0 | c0
  rotate_left
  · left
    rw [if_neg c0]
    refine ⟨e, c0, i1, a1, g1, (k1.1 + 0, k1.2 + 0), obG_s (k' := (0, 0)) ?_, ⟨T1, kt, B + N, r2, ⟨r3.1, r3.2.1, r3.2.2.1, Nat.le_trans r3.2.2.2 (Nat.le_add_right _ _)⟩, ⟨r11 tp htp, r12, r14, fun hh => r13 hh, r7⟩, r4, r5, r6, fun hb => ?_, fun hh => absurd hh e, by omega, by omega⟩, r15⟩
    · rw [if_pos (show nI 0 = (0 : Int32) from rfl), r12]
    · obtain ⟨z1, z2, z3, z4, z5⟩ := r8 hb
      exact ⟨z1, z2, z3, ⟨z4.1, Nat.le_trans z4.2 (Nat.le_add_right _ _)⟩, by omega⟩
  right
  rw [if_pos c0]
  obtain ⟨G, N', F, L, ph, got, rd⟩ := c
  have hP40 : (gProcs G).length ≤ 40 := r3.1.1.1.2.1
  obtain ⟨ri, rt, rl, rs⟩ := RI_read hP40 c0
  obtain ⟨x1, x2, x3, x4, x5⟩ := ri
  have hcv := (r16 c0).1 rfl
  obtain ⟨ms, hms⟩ : ∃ ms, ms = (rdK (aRead false (gProcs G) tp N)).headD [] := ⟨_, rfl⟩
  have hKm : rdK (aRead false (gProcs G) tp N) = [ms] := by
    have rl : (rdK (aRead false (gProcs G) tp N)).length = 1 := rl
    cases hk : rdK (aRead false (gProcs G) tp N) with
    | nil => rw [hk] at rl; cases rl
    | cons m R =>
      cases R with
      | nil => rw [hms, hk]; rfl
      | cons m2 R => rw [hk] at rl; simp at rl
  have hmok : ∀ x ∈ ms, tOk x 0 := x3 ms (by show ms ∈ rdK (aRead false (gProcs G) tp N); rw [hKm]; exact List.mem_cons_self)
  have hsh : shL ms ≤ N + 600 := by
    have x4 : dSz _ + kSh (rdK (aRead false (gProcs G) tp N)) + 2 * ((rdK (aRead false (gProcs G) tp N)).length - 1) ≤ N + _ := x4
    rw [hKm, kSh, kSh] at x4
    omega
  have hsz := sz_1 ms hmok
  have hkc := (kc_sz (tL ms)).1 (tOk_tL hmok).1
  show _ ∧ _ ∧ _
  rw [show (rdK (aRead false (gProcs (G, N', F, L, ph, got, rd).1) tp N)).headD [] = ms from hms.symm]
  have hcv : cV (a1 0) T1 (tL ms) none (i1 27) := by rw [hms]; exact hcv
  obtain ⟨⟨⟨a01, a02, a03, a04, a05, a06, a07, a08, a09⟩, ⟨b1, b2, b3, b4, b5, b6, b7⟩, hN', hLoc, hLev⟩, _⟩ := id r2
  have hgl := r3.2.2
  have hgc : gC (gGlob G) ≤ 78848 := by
    have := gC_le b1 hgl.1
    have := b1.2.1
    have : gC (gGlob G) ≤ 1232 * (gGlob G).length := by assumption
    have e64 : (gGlob G).length ≤ 64 := b1.2.1
    omega
  have hpc : pC (gProcs G) ≤ 103920 + 4 * B := by
    have h1 : pC (gProcs G) ≤ 2598 * (gProcs G).length + 4 * exP (gProcs G) := pC_le b2 (fun p hp => (r3.1.1.1.2.2.1 p hp).1)
    have h2 : exP (gProcs G) ≤ B := hgl.2
    omega
  have hZ : 21 + kc (tL ms) + gC (gGlob G) + pC (gProcs G) ≤ 186000 + 4 * (B + N) := by omega
  obtain ⟨i2, a2, g2, k2, S, p1, p2, p3, p4, p5, p6, p7, p8, p9, p10, p11, p12, p13, p14, p15, p16, p17, p18⟩ := h_collect (n := n) (g := g1) (i := i1) (a := a1) (T := T1) (tl := tL ms) (G := gGlob G) (Q := gProcs G) (by omega) r4 r7 a03 a04 a05 r5.1 r5.2 a06 hcv b1 b2 (by omega)
  have hrow : ∀ q, 2 ≤ q → q ≠ 10 → q ≠ 11 → q ≠ 15 → q ≠ 16 → q ≠ 17 → a2 q = a1 q := fun q h1 h2 h3 h4 h5 h6 => p16 q (by omega) (by omega) (by simp only [List.mem_cons, List.not_mem_nil, or_false, not_or]; omega)
  have hlex : lexOk a2 := by
    unfold lexOk
    rw [hrow 5 (by decide) (by decide) (by decide) (by decide) (by decide) (by decide), hrow 6 (by decide) (by decide) (by decide) (by decide) (by decide) (by decide), hrow 7 (by decide) (by decide) (by decide) (by decide) (by decide) (by decide), hrow 8 (by decide) (by decide) (by decide) (by decide) (by decide) (by decide), hrow 9 (by decide) (by decide) (by decide) (by decide) (by decide) (by decide)]
    exact a06
  -- the state when all is kept
  have hG' : cGen g2 (keI i2) (keA a2) S := by
    refine ⟨p2, ⟨p3, p10⟩, p5, p6, p7, hlex, ?_, ?_, ?_⟩
    · show cV (a2 0) 21 _ none (i2 4)
      rw [p15 4 (by decide) (by decide) (by decide)]; exact cV_low a07 p11
    · show cV (a2 0) 21 _ none (i2 5)
      rw [p15 5 (by decide) (by decide) (by decide)]; exact cV_low a08 p11
    · show cV (a2 0) 21 _ none (i2 6)
      rw [p15 6 (by decide) (by decide) (by decide)]; exact cV_low a09 p11
  have q20 : a2 20 = a1 20 := hrow 20 (by decide) (by decide) (by decide) (by decide) (by decide) (by decide)
  have q21 : a2 21 = a1 21 := hrow 21 (by decide) (by decide) (by decide) (by decide) (by decide) (by decide)
  have q26 : a2 26 = a1 26 := hrow 26 (by decide) (by decide) (by decide) (by decide) (by decide) (by decide)
  have q17 : i2 17 = nI (gTold G) := (p15 17 (by decide) (by decide) (by decide)).trans b5
  have hout : outR (i2 19) (i2 20) (a2 26) (gOut G) := by
    rw [p15 19 (by decide) (by decide) (by decide), p15 20 (by decide) (by decide) (by decide), q26]; exact b6
  have q45 : i2 45 = gSeed G := (p15 45 (by decide) (by decide) (by decide)).trans b7.1
  have hW' : cWorld (keI i2) (keA a2) S (gSetKept G (gh (keI i2) (keA a2) S true G)) := ⟨p13, p14, fun k hk => by show a2 20 k = _; rw [q20]; exact b3 k hk, fun k hk => by show a2 21 k = _; rw [q21]; exact b4 k hk, q17, hout, q45, kEx_new (Nat.le_refl _) (Nat.le_refl _) (Nat.le_refl _)⟩
  have hN2 : cNum (keI i2) N' := by
    obtain ⟨n1, n2, n3, n4, n5⟩ := hN'
    exact ⟨(p15 35 (by decide) (by decide) (by decide)).trans n1, (p15 36 (by decide) (by decide) (by decide)).trans n2, (p15 37 (by decide) (by decide) (by decide)).trans n3, (p15 38 (by decide) (by decide) (by decide)).trans n4, (p15 39 (by decide) (by decide) (by decide)).trans n5⟩
  have h13 : keI i2 13 = nI (frLocs F) := (p15 13 (by decide) (by decide) (by decide)).trans hLoc.1
  have hRW' : RW (keI i2) (keA a2) tp 0 0 0 := by
    obtain ⟨t1, t2, t3, t4⟩ := r11 tp htp
    refine ⟨⟨(p15 24 (by decide) (by decide) (by decide)).trans t1, t2, fun k hk => absurd hk (Nat.not_lt_zero k), t4⟩, ?_, by decide, fun hh => absurd rfl hh, (p15 7 (by decide) (by decide) (by decide)).trans r7⟩
    show i2 26 = _
    rw [p15 26 (by decide) (by decide) (by decide), r12, show rdF (aRead false (gProcs (G, N', F, L, ph, got, rd).1) tp N) = 0 from c0]
  have hKP' : KP (keI i2) (keA a2) S G (tL ms) := by
    refine ⟨p2, q45, p12, ⟨p3, p10⟩, ⟨p13.1, p13.2.1, fun k hk => ⟨(p13.2.2 k hk).1, ?_⟩⟩, ⟨p14.1, p14.2.1, fun k hk => ⟨(p14.2.2 k hk).1, ?_, ?_⟩⟩, fun k hk => ?_, fun k hk => ?_, q17, ?_⟩
    · show cV (a2 0) S _ none (va_cpy (a2 11) (a2 14) 0 0 64 k)
      rw [va_0 (Nat.lt_of_lt_of_le hk p13.2.1)]
      exact (p13.2.2 k hk).2
    · show cV (a2 0) S _ none (va_cpy (a2 16) (a2 18) 0 0 40 k)
      rw [va_0 (Nat.lt_of_lt_of_le hk p14.2.1)]
      exact (p14.2.2 k hk).2.1
    · show cV (a2 0) S _ none (va_cpy (a2 17) (a2 19) 0 0 40 k)
      rw [va_0 (Nat.lt_of_lt_of_le hk p14.2.1)]
      exact (p14.2.2 k hk).2.2
    · show va_cpy (a2 20) (a2 24) 0 0 56 k = _
      rw [va_0 hk, q20]; exact b3 k hk
    · show va_cpy (a2 21) (a2 25) 0 0 4096 k = _
      rw [va_0 hk, q21]; exact b4 k hk
    · obtain ⟨q, e1, e2, e3, e4⟩ := hout
      refine ⟨q, e1, e2, e3, fun k hk hk2 => ?_⟩
      show va_cpy (a2 26) (a2 27) 0 0 2000 _ = _
      rw [va_0 (Nat.mod_lt _ (by decide))]
      exact e4 k hk hk2
  have hgOk : gOk G := r3.1.1.1
  obtain ⟨i3, a3, g3, k3, T3, c', u1, u2, u3, u4, u5, u6, u7⟩ := W_begin (n := n) (B := B + N) (kt := S) (G0 := G) (tl := tL ms) hn hG' hW' hN2 h13 hLoc.2.1 hRW' (FX_keep r4 p11) ⟨p8, p9⟩ rfl ⟨hKP', hgOk, isL_tL ms, ⟨hgl.1, Nat.le_trans hgl.2 (Nat.le_add_right _ _)⟩, by omega⟩ (by omega)
  have hcnt : m_Heap_count n g3 i3 a3 (i3 0) = some (nI ms.length) := by
    have hkp3 := u4.2.2.2.2.2.2.2.2.1.1
    have hgen3 := u4.1
    obtain ⟨G9, N9, F9, L9, ph9, got9, rd9⟩ := c'
    have := h_count (n := n) (g := g3) (i := i3) (a := a3) (top := S) (by have := hgen3.1.1.2.2.1; omega) hgen3.1.1.2.2.2.2.1 hkp3.2.2.1
    rw [tMem_tL] at this
    exact this
  refine ⟨e, c0, i3, a3, g3, (k1.1 + (k2.1 + (k3.1 + 0)), k1.2 + (k2.2 + (k3.2 + 0))), c', ?_, u2, WP_WC u4 (by omega), Pot_trans r15 (Pot_trans ⟨p17, p18⟩ u5)⟩
  refine obG_s (k' := (k2.1 + (k3.1 + 0), k2.2 + (k3.2 + 0))) ?_
  rw [if_neg (show ¬ nI 1 = (0 : Int32) from by decide), p1]
  refine obG_s (k' := (k3.1 + 0, k3.2 + 0)) ?_
  rw [h_keep, ob_s, u1]
  refine obG_s (k' := (0, 0)) ?_
  rw [hcnt, ob0_s]

