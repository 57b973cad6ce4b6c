/-! a line in the reference -/
theorem i_0 {i : Nat → Int32} {a : Nat → Nat → Int32} {b : Nat → Nat → Int64} {B : RB4} {ps : List Proc} (h : rPr i a b B ps) : rPr (upd i 0 0) a b B ps := ⟨(upd_ne (by decide)).trans h.1, h.2⟩
/-- a fault: all is as it was -/
theorem WR_fault {i : Nat → Int32} {j : Nat → Int64} {a : Nat → Nat → Int32} {b : Nat → Nat → Int64} {i0 i' : Nat → Int32} {a' : Nat → Nat → Int32} {b' : Nat → Nat → Int64} {cc : Nat} {c : Cfg} {G0 : GS} {tl : Tr} {bk : Bool} {tp : Nat → Nat} {f p : Nat} {B B' : RB4} (hi0 : ∀ q, q ≠ 0 → q ≠ 86 → i0 q = i q) (h0 : WRb i j a b cc c G0 tl bk B) (h2 : aInv2 c) (t4 : ∀ k, tp k < 256) (h5 : cSt c = 1 → nErr c.2.1 = 0) (h : SF i0 a b B i' a' b' B') {i2 : Nat → Int32} (hi : ∀ q, q ≠ 74 → q ≠ 18 → q ≠ 19 → q ≠ 20 → q ≠ 21 → i2 q = i' q) (h74 : i2 74 = 0) (h18 : i2 18 = i 18) (h19 : i2 19 = i 19) (h20 : i2 20 = i 20) (h21 : i2 21 = i 21) (h75 : i' 75 = nI f) (h76 : f ≠ 0 → i' 76 = nI p) (hf : f < 100) : WR i2 j a' b' (cc + 1) (c, G0, tl, bk, tp, 0, f, p) := by
  obtain ⟨s1, s2, s3, s4, s5⟩ := h
  refine ⟨⟨B, WRb_up h0 (Nat.le_succ _) (rUp_down s4) (fun x hx => (s5 x hx).1) (fun x hx => (s5 x hx).2) (fun q hq => ?_) ⟨rfl, rfl, rfl⟩ (fun q hq => s2 q (fun hm => by revert hq hm; revert q; decide)) (fun q hq => s3 q (fun e => by subst e; revert hq; decide) (fun e => by subst e; revert hq; decide))⟩, h2, ⟨h74, Nat.zero_le _, fun k hk => absurd hk (Nat.not_lt_zero _), t4⟩, ⟨(hi 75 (by decide) (by decide) (by decide) (by decide) (by decide)).trans h75, hf, fun e => (hi 76 (by decide) (by decide) (by decide) (by decide) (by decide)).trans (h76 e)⟩, h5⟩
  rcases (by omega : q = 18 ∨ q = 19 ∨ q = 20 ∨ q = 21 ∨ (q ≠ 18 ∧ q ≠ 19 ∧ q ≠ 20 ∧ q ≠ 21)) with e | e | e | e | ⟨e1, e2, e3, e4⟩
  · rw [e]; exact h18
  · rw [e]; exact h19
  · rw [e]; exact h20
  · rw [e]; exact h21
  · rw [hi q (fun e => by subst e; revert hq; decide) e1 e2 e3 e4, s1 q ((show ∀ q ∈ wcI, q ≠ 18 → q ≠ 19 → q ∉ scI by decide) q hq e1 e2), hi0 q (fun e => by subst e; revert hq; decide) (fun e => by subst e; revert hq; decide)]
theorem gOk_c {c : Cfg} (h : aInv2 c) : gOk c.1 := by
  obtain ⟨G, N, F, L, ph, got, rd⟩ := c
  exact h.1.1
/-- line -/
theorem R_line {n d Z : Nat} {i : Nat → Int32} {j : Nat → Int64} {a : Nat → Nat → Int32} {b : Nat → Nat → Int64} {cc : Nat} {c : Cfg} {G0 : GS} {tl : Tr} {bk : Bool} {tp : Nat → Nat} {N fk fp : Nat} (hn : 200000 ≤ n) (hd : 1400 ≤ d) (hcc : cc < 1000000) (h : WR i j a b cc (c, G0, tl, bk, tp, N, fk, fp)) (hgl : gL Z (cGP c)) (hZ : Z ≤ 10240) : (cSt c = 1 ∧ m_Model_line n d i j a b = some (upd i 0 0, j, a, b, -20)) ∨ (cSt c ≠ 1 ∧ rdF (aRead false (gProcs c.1) tp N) ≠ 0 ∧ ∃ i' a' b', m_Model_line n d i j a b = some (i', j, a', b', -nI (rdF (aRead false (gProcs c.1) tp N))) ∧ WR i' j a' b' (cc + 1) (c, G0, tl, bk, tp, 0, rdF (aRead false (gProcs c.1) tp N), rdP (aRead false (gProcs c.1) tp N))) ∨ (cSt c ≠ 1 ∧ rdF (aRead false (gProcs c.1) tp N) = 0 ∧ ∃ i' j' a' b' c', m_Model_line n d i j a b = some (i', j', a', b', nI ((rdK (aRead false (gProcs c.1) tp N)).headD []).length) ∧ Std 0 (aBegin c.1 (tL ((rdK (aRead false (gProcs c.1) tp N)).headD []))) c' ∧ WR i' j' a' b' (cc + 1) (c', c.1, tL ((rdK (aRead false (gProcs c.1) tp N)).headD []), true, tp, 0, 0, 0)) := by
  obtain ⟨⟨B, h0⟩, h2, ⟨t1, t2, t3, t4⟩, ⟨f1, f2, f3⟩, h5⟩ := h
  obtain ⟨h1, h1', h1'', h1x⟩ := id h0
  obtain ⟨⟨w1, w2, w8, ⟨w9, w10⟩, w11, w12, w14⟩, hR, ⟨w5, w6, w7⟩, ⟨k1, k2, k3, k4, k5, k6⟩, _, _⟩ := id h1
  have hst : cSt c ≤ 4 := h2.1.2.1.1
  have hB : B.1 ≤ 120000 ∧ B.2.1 ≤ 300000 ∧ B.2.2.1 ≤ 90000 ∧ B.2.2.2 ≤ 90000 := w1.2.2.2.2
  have hph := (phi_ge (a := a) (b := b) B.1).1
  have hph2 := w2.2
  obtain ⟨r1, r2, r3⟩ := hR
  unfold m_Model_line
  rw [ob1_s, upd_ne (show 92 ≠ 0 by decide), k1]
  rcases Classical.em (cSt c = 1) with e | e
  · left
    rw [if_pos (show nI (cSt c) = (1 : Int32) by rw [e]; rfl)]
    exact ⟨e, rfl⟩
  right
  rw [if_neg (show ¬ nI (cSt c) = (1 : Int32) from fun e9 => e ((nI_eq (b := 1) (by omega) (by decide)).mp e9)), ob1_s, ob1_s]
  obtain ⟨i6, a8, b9, es, hres⟩ := r_scan (n := n) (N := N) (dfn := false) (P := gProcs c.1) (tp := tp) (i := upd i 0 0) (j := j) (a := a) (b := b) (B := B) (by omega) (rB_i w1 (upd_ne (by decide)) (upd_ne (by decide)) (upd_ne (by decide)) (upd_ne (by decide))) w2.1 (by omega) (i_0 w9) ⟨(upd_ne (by decide)).trans t1, t2, t3, t4⟩ (fun e => by cases e)
  have es : m_Model_scan n (upd i 0 0) j a b 0 = _ := es
  rw [es, om_s, ob1_s]
  generalize hRd : aRead false (gProcs c.1) tp N = r at *
  rcases hres with ⟨c0, hbad⟩ | ⟨c0, B2, T, mt, vl, lo, hsi⟩
  · left
    refine ⟨e, c0, ?_⟩
    obtain ⟨B9, hF9⟩ := hbad.1
    rw [decide_eq_false c0, if_pos (show b1 false = (0 : Int32) from rfl), ob1_s, ob1_s, upd_ne (show 75 ≠ 19 by decide), upd_ne (show 75 ≠ 18 by decide), upd_ne (show 75 ≠ 74 by decide), hbad.2.1]
    exact ⟨_, _, _, rfl, WR_fault (fun q q1 _ => upd_ne q1) h0 h2 t4 h5 hF9 (fun q q1 q2 q3 _ _ => by rw [upd_ne q3, upd_ne q2, upd_ne q1]) (by rw [upd_ne (by decide), upd_ne (by decide), upd_at]) (by rw [upd_ne (by decide), upd_at]; exact upd_ne (by decide)) (by rw [upd_at]; exact upd_ne (by decide)) (by rw [upd_ne (by decide), upd_ne (by decide), upd_ne (by decide), hF9.1 20 (by decide)]; exact upd_ne (by decide)) (by rw [upd_ne (by decide), upd_ne (by decide), upd_ne (by decide), hF9.1 21 (by decide)]; exact upd_ne (by decide)) hbad.2.1 (fun _ => hbad.2.2.1) (by have := hbad.2.2.2; omega)⟩
  right
  refine ⟨e, c0, ?_⟩
  rw [decide_eq_true c0, if_neg (show ¬ b1 true = (0 : Int32) by decide)]
  obtain ⟨⟨hF, hbd, hCO⟩, ⟨hRI, _⟩, ⟨hk, _, _⟩, _, hlo⟩ := hsi
  obtain ⟨s1, s2, s3, s4, s5⟩ := id hF
  have e3 : r.1 = 3 := hRI.2.2.2.2.1 rfl
  obtain ⟨m, em, hm⟩ := hk e3
  have hlo := (hlo rfl).2
  subst hlo
  have ehd : (rdK r).headD [] = m := by show r.2.1.headD [] = m; rw [em]; rfl
  rw [ehd]
  obtain ⟨c1, c2, c3, c4, c5, c6⟩ := hCO
  generalize hg : r.2.2.1 = tok at *
  have htok : ∀ x ∈ m, tOk x 0 := hRI.2.2.1 m (by rw [em]; exact List.mem_cons_self)
  have hszm : shL m ≤ 4600 := by
    have q1 := hRI.2.2.2.1
    rw [em, kSh, hg] at q1
    omega
  have hz1 : tSz (tL m) ≤ 5000 := by
    have q4 := sh_list m
    have q5 := (sz_sh _).1 (tOk_tL htok).1
    omega
  have hz3 : tSl (tL m) ≤ 8000 := by
    have q4 := sh_list m
    unfold tSl
    omega
  have hnd := SEG_nd (tok - 0) m 0 tok (Nat.le_refl _) hm (fun q _ q2 => (c6 q q2).1)
  have hz2 : tNd (tL m) ≤ 601 := by rw [qm_tL]; omega
  have eB : B2.2.2.1 = B.2.2.1 ∧ B2.2.2.2 = B.2.2.2 := ⟨by rw [hbd.2.2], by rw [hbd.2.2]⟩
  -- the list
  obtain ⟨i14, a16, b17, B4, v, l1, l2, l3, l4, l5, l6, l7, l8, l9, l10, l11⟩ := r_listOf (n := n) (i := upd i6 74 0) (j := j) (fr := 0) (to := tok) (by omega) c5 hm ⟨hz1, by omega, hz3⟩ (rB_i c1 (upd_ne (by decide)) (upd_ne (by decide)) (upd_ne (by decide)) (upd_ne (by decide))) (fun q _ q2 => (c6 q q2).1) (by omega) (by omega)
  have l1 : m_Model_listOf n (upd i6 74 0) j a8 b9 0 (nI tok) = _ := l1
  rw [upd_ne (show 81 ≠ 74 by decide), c4, l1, om_s]
  have huA := rUp_trans s4 l2
  have hgl1 : rGl i14 a16 b17 B4 (gGlob c.1) := rGl_up huA (by rw [l9 36 (by decide) (by decide), upd_ne (by decide), s1 36 (by decide)]; exact upd_ne (by decide)) (fun m _ => by rw [l10 34 (by decide) (by decide) (by decide), s2 34 (by decide), l11 35 (by decide) (by decide), s3 35 (by decide) (by decide)]; exact ⟨rfl, rfl⟩) w8
  have hpr1 : rPr i14 a16 b17 B4 (gProcs c.1) := rPr_up huA (by rw [l9 33 (by decide) (by decide), upd_ne (by decide), s1 33 (by decide)]; exact upd_ne (by decide)) (fun m _ => by rw [l10 29 (by decide) (by decide) (by decide), s2 29 (by decide), l10 30 (by decide) (by decide) (by decide), s2 30 (by decide), l11 32 (by decide) (by decide), s3 32 (by decide) (by decide)]; exact ⟨rfl, rfl, rfl⟩) (fun m _ => by rw [l10 31 (by decide) (by decide) (by decide), s2 31 (by decide)]) w9
  have hck : ∀ x, x < B4.1 → ∃ l, rK a16 b17 B4 x l := fun x hx => by
    obtain ⟨l, hl⟩ := c2 x (by rw [← l5]; exact hx)
    exact ⟨l, rK_up l2 (by rw [l10 7 (by decide) (by decide) (by decide)]) (by rw [l11 9 (by decide) (by decide)]) hl⟩
  have z1 := pz_room hpr1 hgl.2
  have z2 := gz_room hgl1 hgl.1
  -- what lives is moved
  obtain ⟨i20, a22, b23, B3, v3, d1, d2, d3, d4, d5, d6, d7, d8, d9, d10, d11⟩ := r_tidy (n := n) (j := j) (T1 := 68000) (T2 := 55000) hn l3 hck hgl1 hpr1 l4 (by decide) (by show pzP (gProcs c.1) + gzG (gGlob c.1) + tSz (tL m) ≤ 68000; have := z1.1; have := z2.1; dsimp only [cGP, gGP] at *; omega) (by show pmP (gProcs c.1) + gmG (gGlob c.1) + tNd (tL m) ≤ 55000; have := z1.2; have := z2.2; dsimp only [cGP, gGP] at *; omega)
  rw [d1, om_s, ob1_s]
  have hrowA : ∀ q, q ∉ scA → q ∉ tdA → a22 q = a q := fun q q1 q2 => by
    rw [d10 q q2, l10 q (fun e => q2 (by rw [e]; decide)) (fun e => q2 (by rw [e]; decide)) (fun e => q2 (by rw [e]; decide)), s2 q q1]
  have h45 : a22 45 = a 45 := hrowA 45 (by decide) (by decide)
  obtain ⟨i27, j28, a29, b30, g1, g2, g3, g4, g5, g6⟩ := r_keep (n := n) (i := i20) (j := vp_updL j 101 v3) (a := a22) (b := b23) (by omega) (fun k hk => by rw [h45]; exact w12.2.2 k hk)
  rw [g1, om_s, ob1_s]
  have j101 : j28 101 = v3 := (g4 101 (by decide)).trans updL_at
  have huK : rUp a22 b23 B3 a29 b30 B3 := rUp_same ⟨g5 1 (by decide), g5 3 (by decide), g5 4 (by decide), g5 12 (by decide), g5 13 (by decide), g5 14 (by decide), g6 10 (by decide) (by decide)⟩ d2.2.2.2.2
  have hvK : rV a29 b30 B3 (tL m) none (j28 101) := by rw [j101]; exact (rV_up huK _).1 _ d7
  rw [r_size hvK, ob0_s]
  -- ints that nothing of this touches
  have hi20 : ∀ q, q ∉ scI → q ∉ [18, 19, 20, 21, 67, 68, 69, 70] → q ≠ 74 → q ≠ 0 → i20 q = i q := fun q q1 q2 q3 q4 => by
    rw [d9 q q2, l9 q (fun e => q2 (by rw [e]; decide)) (fun e => q2 (by rw [e]; decide)), upd_ne q3, s1 q q1, upd_ne q4]
  have hW20 : rW0 i20 (vp_updL j 101 v3) a22 b23 B3 c.1 := ⟨d2, d3, d5, ⟨d6, w10⟩, rTu_up w11 (fun q q1 q2 => hrowA q (by simp [scA]; omega) (by simp [tdA]; omega)) (hi20 47 (by decide) (by decide) (by decide) (by decide)), rOut_up w12 (updL_ne (by decide)) h45, (hi20 46 (by decide) (by decide) (by decide) (by decide)).trans w14⟩
  have hi32 : ∀ q, (q < 59 ∨ 66 < q) → q ≠ 100 → upd i27 100 0 q = i20 q := fun q q1 q2 => by rw [upd_ne q2, g3 q q1]
  have hrowK : ∀ q, q ∉ [49, 50, 51, 52, 53, 54, 57] → a29 q = a22 q := g5
  have hW32 : rW0 (upd i27 100 0) j28 a29 b30 B3 c.1 := ⟨rB_i d2 (hi32 18 (by decide) (by decide)) (hi32 19 (by decide) (by decide)) (hi32 20 (by decide) (by decide)) (hi32 21 (by decide) (by decide)), rC_up d3 huK (fun x _ => by rw [g5 7 (by decide)]) (fun x _ => by rw [g6 9 (by decide) (by decide)]), rGl_up huK (hi32 36 (by decide) (by decide)) (fun m _ => by rw [g5 34 (by decide), g6 35 (by decide) (by decide)]; exact ⟨rfl, rfl⟩) d5, ⟨rPr_up huK (hi32 33 (by decide) (by decide)) (fun m _ => by rw [g5 29 (by decide), g5 30 (by decide), g6 32 (by decide) (by decide)]; exact ⟨rfl, rfl, rfl⟩) (fun m _ => by rw [g5 31 (by decide)]) d6, w10⟩, rTu_up hW20.2.2.2.2.1 (fun q q1 q2 => g5 q (by simp; omega)) (hi32 47 (by decide) (by decide)), rOut_up hW20.2.2.2.2.2.1 (g4 48 (by decide)) (g5 45 (by decide)), (hi32 46 (by decide) (by decide)).trans hW20.2.2.2.2.2.2⟩
  have hGok := gOk_c h2
  obtain ⟨i', j', a', b', B', c', x1, x2, x3, x4, x5, x6, x7⟩ := r_exec (n := n) (d := d) (bd := 0) (by omega) hd (by omega) hW32 hGok (by omega) (by omega) (by omega) (isL_tL m) hvK
  have x1 : m_Model_execute n d (upd i27 100 0) j28 a29 b30 0 = _ := x1
  rw [x1, om_s]
  have hkp : rKp (upd i27 100 0) j28 a29 b30 B3 c.1 (tL m) := ⟨i20, vp_updL j 101 v3, a22, b23, hW20, d4, huK, SN_to g2 (fun q q1 q2 => upd_ne (by omega)) rfl (fun _ _ => rfl) ⟨rfl, rfl⟩, fun x l hw => by
    unfold rPm
    rw [g5 7 (by decide)]
    exact (rC_at d3 hw).2.1, by rw [j101]; exact d7⟩
  have hfin : ∀ q, q ∉ chI → q ∉ exI → i' q = upd i27 100 0 q := x3.1
  have h74 : i' 74 = 0 := by rw [hfin 74 (by decide) (by decide), hi32 74 (by decide) (by decide), d9 74 (by decide), l9 74 (by decide) (by decide), upd_at]
  have h75 : i' 75 = 0 := by rw [hfin 75 (by decide) (by decide), hi32 75 (by decide) (by decide), d9 75 (by decide), l9 75 (by decide) (by decide), upd_ne (by decide)]; exact c3
  exact ⟨i', j', a', b', c', rfl, x4, ⟨B', x6, by omega, fun _ => ⟨B3, ⟨(er_begin x4).2, by rw [hfin 100 (by decide) (by decide), upd_at]⟩, rKp_run hkp x2 x3 x6.1.2.1, ⟨x2.1.1, x2.1.2.2.1, x2.1.2.2.2.2.1, x2.1.2.2.2.2.2.2.1⟩, ⟨by omega, by omega, by omega⟩, by omega, hGok, isL_tL m⟩, (fun e => by cases e)⟩, x5, ⟨h74, Nat.zero_le _, fun k hk => absurd hk (Nat.not_lt_zero _), t4⟩, ⟨h75, by decide, fun e => absurd rfl e⟩, (er_begin x4).1⟩

