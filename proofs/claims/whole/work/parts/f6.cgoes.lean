/-! a line begins, and begins again -/
def WP (g : Nat → Nat) (i : Nat → Int32) (a : Nat → Nat → Int32) (T kt B : Nat) (c : Cfg) (G0 : GS) (tl : Tr) (tp : Nat → Nat) (N fk fp : Nat) : Prop := CR g i a T (kS (gh i a kt true G0) c) ∧ aInv2 c ∧ atRest c ∧ gL B (cGP c) ∧ RW i a tp N fk fp ∧ FX (a 0) ∧ (16384 ≤ g 1 ∧ g 1 ≤ 340000) ∧ i 3 = b1 true ∧ (KP i a kt G0 tl ∧ gOk G0 ∧ isL tl = true ∧ gL B (gGP G0) ∧ kt ≤ 186000 + 4 * B) ∧ RM T kt c
theorem WP_WC {g : Nat → Nat} {i : Nat → Int32} {a : Nat → Nat → Int32} {T kt B cc : Nat} {c : Cfg} {G0 : GS} {tl : Tr} {tp : Nat → Nat} {N fk fp : Nat} (h : WP g i a T kt B c G0 tl tp N fk fp) (hB : B + N ≤ 20 * cc) : WC g i a cc (c, G0, tl, true, tp, N, fk, fp) := by
  obtain ⟨h1, h2, h3, h4, h5, h6, h7, h8, h9, h10⟩ := h
  refine ⟨T, kt, B, h1, ⟨h2, h3, h4⟩, h5, h6, h7, h8, fun _ => h9, fun _ => ⟨rfl, h10⟩, ?_, hB⟩
  have hmd : cMd c ≤ 30000 := h2.1.2.1.2.2.2.1
  have hr : T + cMp c ≤ kt + 3 * cMd c := h10
  have := h9.2.2.2.2
  omega
/-- the ints that a line's beginning sets -/
def bI (i : Nat → Int32) : Nat → Int32 := upd (upd (upd (upd (upd (upd (upd (upd (upd (upd i 35 1) 36 0) 37 0) 38 0) 39 0) 40 0) 41 0) 42 0) 43 0) 44 0
def bZ (i : Nat → Int32) : Nat → Int32 := upd (upd (upd (upd i 13 (nI 0)) 40 (nI 0)) 41 (nI 0)) 42 (nI 0)
theorem bI_bZ (i : Nat → Int32) : bI (bZ i) = upd (bI i) 13 (nI 0) := by
  funext q
  rcases Classical.em (q = 13) with e13 | e13
  · subst e13; rfl
  rcases Classical.em (q = 44) with e44 | e44
  · subst e44; rfl
  rcases Classical.em (q = 43) with e43 | e43
  · subst e43; rfl
  rcases Classical.em (q = 42) with e42 | e42
  · subst e42; rfl
  rcases Classical.em (q = 41) with e41 | e41
  · subst e41; rfl
  rcases Classical.em (q = 40) with e40 | e40
  · subst e40; rfl
  rcases Classical.em (q = 39) with e39 | e39
  · subst e39; rfl
  rcases Classical.em (q = 38) with e38 | e38
  · subst e38; rfl
  rcases Classical.em (q = 37) with e37 | e37
  · subst e37; rfl
  rcases Classical.em (q = 36) with e36 | e36
  · subst e36; rfl
  rcases Classical.em (q = 35) with e35 | e35
  · subst e35; rfl
  unfold bI bZ
  rw [upd_ne e44, upd_ne e43, upd_ne e42, upd_ne e41, upd_ne e40, upd_ne e39, upd_ne e38, upd_ne e37, upd_ne e36, upd_ne e35, upd_ne e42, upd_ne e41, upd_ne e40, upd_ne e13, upd_ne e13, upd_ne e44, upd_ne e43, upd_ne e42, upd_ne e41, upd_ne e40, upd_ne e39, upd_ne e38, upd_ne e37, upd_ne e36, upd_ne e35]
theorem h_begin_z {n q : Nat} {g : Nat → Nat} {i : Nat → Int32} {a : Nat → Nat → Int32} {x : Int32} (h : i 13 = nI q) (hq : q ≤ 1800) : m_Machine_begin n g i a x = m_Machine_begin n g (bZ i) a x := by
  unfold m_Machine_begin m_Line_begin m_Waiting_begin m_Names_dropLocals
  simp only [ob_s, ob1_s]
  rw [if_neg (show ¬ (0 : Int32) < (0 : Int32) from by decide), if_neg (show ¬ (0 : Int32) < (0 : Int32) from by decide)]
  show ob (if bI i 13 ≤ (0 : Int32) then some (bI i, a, (0 : Int32)) else some (upd (bI i) 13 0, a, (0 : Int32))) _ = ob (if bI (bZ i) 13 ≤ (0 : Int32) then some (bI (bZ i), a, (0 : Int32)) else some (upd (bI (bZ i)) 13 0, a, (0 : Int32))) _
  have e1 : bI (bZ i) 13 = nI 0 := by rw [bI_bZ, upd_at]
  have e2 : bI i 13 = nI q := h
  rw [e1, if_pos (show nI 0 ≤ (0 : Int32) from by decide), bI_bZ, e2]
  rcases Nat.eq_zero_or_pos q with c | c
  · subst c
    rw [if_pos (show nI 0 ≤ (0 : Int32) from by decide)]
    have e3 : upd (bI i) 13 (nI 0) = bI i := by
      funext y
      rcases Classical.em (y = 13) with d | d
      · subst d; rw [upd_at, e2]
      · rw [upd_ne d]
    rw [e3]
  · rw [if_neg (show ¬ nI q ≤ (0 : Int32) from nI_ge (a := 0) c (by omega))]
    rfl
theorem W_begin {n : Nat} {g : Nat → Nat} {i : Nat → Int32} {a : Nat → Nat → Int32} {kt B q : Nat} {N' : LN} {G0 : GS} {tl : Tr} {tp : Nat → Nat} {N fk fp : Nat} (hn : 1000000 ≤ n) (hG : cGen g i a kt) (hW : cWorld i a kt (gSetKept G0 (gh i a kt true G0))) (hN : cNum i N') (h13 : i 13 = nI q) (hq : q ≤ 1800) (hw : RW i a tp N fk fp) (hF : FX (a 0)) (hg : 16384 ≤ g 1 ∧ g 1 ≤ 340000) (h3 : i 3 = b1 true) (hK : KP i a kt G0 tl ∧ gOk G0 ∧ isL tl = true ∧ gL B (gGP G0) ∧ kt ≤ 186000 + 4 * B) (hB : B ≤ 10300) : ∃ i' a' g' k T' c', m_Machine_begin n g i a (i 0) = some (i', a', g', k, nI 0) ∧ Std 0 (aBegin G0 tl) c' ∧ cDone c' = 0 ∧ WP g' i' a' T' kt B c' G0 tl tp N fk fp ∧ Pot g g' k ∧ i' 0 = i 0 ∧ kt ≤ T' := by
  have hci : CI g (bZ i) a kt (gSetKept G0 (gh i a kt true G0)) N' [] [] := by
    obtain ⟨a1, a2, a3, a4, a5, a6, a7, a8, a9⟩ := hG
    obtain ⟨b1, b2, b3, b4, b5, b6, b7, b8⟩ := hW
    refine ⟨⟨a1, a2, a3, a4, a5, a6, a7, a8, a9⟩, ⟨b1, b2, b3, b4, b5, b6, b7, kEx_i b8 (fun q hq => ?_)⟩, hN, ⟨rfl, Nat.zero_le _, fun k hk => absurd hk (Nat.not_lt_zero k)⟩, rfl, rfl, rfl, rfl⟩
    unfold bZ
    have : q ≠ 13 ∧ q ≠ 40 ∧ q ≠ 41 ∧ q ≠ 42 := by
      unfold kInts at hq
      simp only [List.mem_cons, List.not_mem_nil, or_false] at hq
      omega
    rw [upd_ne this.2.2.2, upd_ne this.2.2.1, upd_ne this.2.1, upd_ne this.1]
  obtain ⟨j, c1, i', a', g', k, T', q1, q2, q3, q4, q5, q6, q7, q8⟩ := h_begin (n := n) (T0 := kt) (l := tl) (x := i 0) hn (by have := hK.2.2.2.2; omega) (Nat.le_refl _) hci hK.2.1 hK.1.2.2.1 hK.2.2.1
  have e1 : c1 = kS (gh i a kt true G0) (aIt 0 j (aBegin G0 tl)) := by rw [← ek_it, kS_begin]; exact (q2 0).symm
  obtain ⟨c', hc'⟩ : ∃ c', c' = aIt 0 j (aBegin G0 tl) := ⟨_, rfl⟩
  rw [← hc'] at e1
  subst e1
  have hkx := CR_kEx q3
  have hkp := KP_keep hK.1 hkx
  have hd : cDone c' = 0 := by rw [hc', dn_it0]; rfl
  refine ⟨i', a', g', k, T', c', (h_begin_z h13 hq).trans q1, ⟨⟨j, hc'.symm⟩, rest_stands q5 (fun _ => Nat.zero_le _)⟩, hd, ⟨CR_re q3 (kEx_new hkx.2.2.1 hkx.2.2.2.2.1 hkx.2.2.2.2.2.2), q4, q5, by rw [hc']; exact gl_it _ j _ hK.2.2.2.1, (RW_keep hw hkx).1, ?_, by rw [q6.2.2.1]; exact hg, (RW_keep hw hkx).2.trans h3, ⟨hkp, hK.2⟩, q8⟩, Pot_h q6, hkx.1.1, q7⟩
  have hk21 := hkp.2.2.2.1.1
  exact FX_keep hF (fun x hx => hkx.2.1 x (by show x < kt; omega))
def tbI (i : Nat → Int32) : Nat → Int32 := upd (upd (upd (upd (upd (upd (upd i 12 (i 14)) 15 (i 16)) 17 (i 18)) 19 (i 21)) 20 (i 22)) 45 (i 2)) 8 (i 1)
def tbA (a : Nat → Nat → Int32) : Nat → Nat → Int32 := updA (updA (updA (updA (updA (updA a 11 (va_cpy (a 14) (a 11) 0 0 64)) 16 (va_cpy (a 18) (a 16) 0 0 40)) 17 (va_cpy (a 19) (a 17) 0 0 40)) 20 (va_cpy (a 24) (a 20) 0 0 56)) 21 (va_cpy (a 25) (a 21) 0 0 4096)) 26 (va_cpy (a 27) (a 26) 0 0 2000)
theorem h_takeBack {n : Nat} {g : Nat → Nat} {i : Nat → Int32} {a : Nat → Nat → Int32} : m_World_takeBack n g i a = some (tbI i, tbA a, nI 0) := by
  unfold m_World_takeBack m_Names_takeBack m_Procedures_takeBack m_Turtles_takeBack m_Output_takeBack
  simp (disch := omega) only [i32_lit, cy_n, ob1_s, ob_s, cl_n]
  rfl
theorem va_0 {f h : Nat → Int32} {m x : Nat} (hx : x < m) : va_cpy f h 0 0 m x = f x := by
  rw [va_in (by omega) (by omega)]
  congr 1
  omega
/-- go -/
theorem W_go {n : Nat} {g : Nat → Nat} {i : Nat → Int32} {a : Nat → Nat → Int32} {cc : Nat} {x : Int32} {c : Cfg} {G0 : GS} {tl : Tr} {bk : Bool} {tp : Nat → Nat} {N fk fp : Nat} (hn : 1000000 ≤ n) (hcc : cc < 512) (h : WC g i a cc (c, G0, tl, bk, tp, N, fk, fp)) : ((bk = false ∨ x < 0 ∨ nI (cDone c) < x) ∧ m_World_go n g i a x = some (i, a, g, (0, 0), nI 0)) ∨ (¬ (bk = false ∨ x < 0 ∨ nI (cDone c) < x) ∧ ∃ i' a' g' k c', m_World_go n g i a x = some (i', a', g', k, nI 1) ∧ Std x.toNatClampNeg (aBegin G0 tl) c' ∧ WC g' i' a' (cc + 1) (c', G0, tl, bk, tp, N, fk, fp) ∧ Pot g g' k) := by
  obtain ⟨s1, s2, s3, s4⟩ := WC_st h
  obtain ⟨T, kt, B, h1, h2, h3, h4, h5, h6, h7, h8, h9, h10⟩ := id h
  unfold m_World_go
  rw [h6, s2]
  cases bk with
  | false =>
    left
    exact ⟨Or.inl rfl, if_pos (show b1 false = (0 : Int32) from rfl)⟩
  | true =>
  rw [if_neg (show ¬ b1 true = (0 : Int32) from fun e => absurd ((nI_eq (a := 1) (b := 0) (by omega) (by omega)).mp e) (by decide))]
  rcases Classical.em (x < 0) with c1 | c1
  · left
    exact ⟨Or.inr (Or.inl c1), if_pos c1⟩
  rw [if_neg c1]
  rcases Classical.em (nI (cDone c) < x) with c2 | c2
  · left
    refine ⟨Or.inr (Or.inr c2), if_neg (fun hh => ?_)⟩
    rw [Int32.le_iff_toInt_le] at hh
    rw [Int32.lt_iff_toInt_lt] at c2
    omega
  right
  refine ⟨fun hh => hh.elim (fun q => by cases q) (fun q => q.elim c1 c2), ?_⟩
  rw [if_pos (by rw [Int32.le_iff_toInt_le]; rw [Int32.lt_iff_toInt_lt] at c2; omega), h_takeBack, ob_s]
  obtain ⟨hK1, hK2⟩ := h7 rfl
  obtain ⟨p1, p2, p3, p4, p5, p6, p7, p8, p9, p10⟩ := id hK1
  have hx : x = nI x.toNatClampNeg := by
    rw [Int32.lt_iff_toInt_lt] at c1
    have e0 : (0 : Int32).toInt = 0 := rfl
    have e1 : (x.toNatClampNeg : Int) = x.toInt := by
      show ((x.toInt.toNat : Nat) : Int) = x.toInt
      omega
    apply Int32.toInt_inj.mp
    have hlt := Int32.toInt_lt x
    rw [nI_toInt (by omega), e1]
  have hb : x.toNatClampNeg < 2147483648 := by
    have hlt := Int32.toInt_lt x
    show x.toInt.toNat < 2147483648
    omega
  have hkx := CR_kEx h1
  have hkT : kt ≤ T := hkx.2.2.1
  have oi : ∀ q, q ≠ 12 → q ≠ 15 → q ≠ 17 → q ≠ 19 → q ≠ 20 → q ≠ 45 → q ≠ 8 → tbI i q = i q := fun q z1 z2 z3 z4 z5 z6 z7 => by
    unfold tbI
    rw [upd_ne z7, upd_ne z6, upd_ne z5, upd_ne z4, upd_ne z3, upd_ne z2, upd_ne z1]
  have oa : ∀ q, q ≠ 11 → q ≠ 16 → q ≠ 17 → q ≠ 20 → q ≠ 21 → q ≠ 26 → tbA a q = a q := fun q z1 z2 z3 z4 z5 z6 => by
    unfold tbA
    rw [updA_ne z6, updA_ne z5, updA_ne z4, updA_ne z3, updA_ne z2, updA_ne z1]
  obtain ⟨G, N', F, L, ph, got, rd⟩ := c
  obtain ⟨⟨⟨a1, a2, a3, a4, a5, a6, a7, a8, a9⟩, hW, hN, hLoc, hLev⟩, _⟩ := h1
  have hG' : cGen g (tbI i) (tbA a) kt := ⟨p1, p4, by omega, a4, a5, a6, a7, a8, a9⟩
  have hKP' : KP (tbI i) (tbA a) kt G0 tl := ⟨p1, p2, p3, p4, p5, p6, p7, p8, p9, p10⟩
  have hW' : cWorld (tbI i) (tbA a) kt (gSetKept G0 (gh (tbI i) (tbA a) kt true G0)) := by
    refine ⟨⟨p5.1, p5.2.1, fun k hk => ⟨(p5.2.2 k hk).1, ?_⟩⟩, ⟨p6.1, p6.2.1, fun k hk => ⟨(p6.2.2 k hk).1, ?_, ?_⟩⟩, fun k hk => ?_, fun k hk => ?_, p9, ?_, p2, kEx_new (Nat.le_refl _) (Nat.le_refl _) (Nat.le_refl _)⟩
    · show cV (a 0) kt _ none (va_cpy (a 14) (a 11) 0 0 64 k)
      have := p5.2.1
      rw [va_0 (Nat.lt_of_lt_of_le hk this)]
      exact (p5.2.2 k hk).2
    · show cV (a 0) kt _ none (va_cpy (a 18) (a 16) 0 0 40 k)
      have := p6.2.1
      rw [va_0 (Nat.lt_of_lt_of_le hk this)]
      exact (p6.2.2 k hk).2.1
    · show cV (a 0) kt _ none (va_cpy (a 19) (a 17) 0 0 40 k)
      have := p6.2.1
      rw [va_0 (Nat.lt_of_lt_of_le hk this)]
      exact (p6.2.2 k hk).2.2
    · show va_cpy (a 24) (a 20) 0 0 56 k = _
      rw [va_0 hk]; exact p7 k hk
    · show va_cpy (a 25) (a 21) 0 0 4096 k = _
      rw [va_0 hk]; exact p8 k hk
    · obtain ⟨q, e1, e2, e3, e4⟩ := p10
      refine ⟨q, e1, e2, e3, fun k hk hk2 => ?_⟩
      show va_cpy (a 27) (a 26) 0 0 2000 _ = _
      rw [va_0 (Nat.mod_lt _ (by decide))]
      exact e4 k hk hk2
  have hRW' : RW (tbI i) (tbA a) tp N fk fp := h3
  have h13 : tbI i 13 = nI (frLocs F) := hLoc.1
  obtain ⟨i1, a1', g1, k1, T1, c1', r1, r2, r3, r4, r5, r6, r7⟩ := W_begin (n := n) (B := B) hn hG' hW' hN h13 hLoc.2.1 hRW' h4 h5 h6 ⟨hKP', hK2⟩ (by omega)
  rw [r1]
  obtain ⟨w1, w2, w3, w4, w5, w6, w7, w8, w9, w10⟩ := r4
  obtain ⟨i', a', g', k, c', q1, q2, q3, q4, q5⟩ := W_on (n := n) (z := x.toNatClampNeg) hn hb w1 w2 w3 w4 w5 w6 w7 w8 w9 w10 h10 (by omega)
  rw [← hx] at q1
  refine ⟨i', a', g', (k1.1 + (k.1 + 0), k1.2 + (k.2 + 0)), c', ?_, ?_, cc_up q4 (by omega), Pot_trans r5 q5⟩
  · refine obG_s (k' := (k.1 + 0, k.2 + 0)) ?_
    rw [q1]
    exact obG_s (k' := (0, 0)) rfl
  · obtain ⟨⟨j1, e1⟩, _⟩ := r2
    obtain ⟨⟨j2, e2⟩, e3⟩ := q3
    rw [r3, Nat.zero_add] at e2 e3
    obtain ⟨j3, e4⟩ := path_up 0 j1 (aBegin G0 tl)
    refine ⟨⟨j3 + j2, ?_⟩, e3⟩
    rw [aIt_add, e4 _ (Nat.zero_le _), e1]
    exact e2

