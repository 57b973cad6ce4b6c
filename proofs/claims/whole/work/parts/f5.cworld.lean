/-! the world of the document, and how the class holds it -/
/-- the line, the world at its beginning, its list, whether one can go back, the tape, how long it is, the fault, its place -/
abbrev AW : Type := Cfg × GS × Tr × Bool × (Nat → Nat) × Nat × Nat × Nat
/-- from s with b instructions it stands at c -/
def Std (b : Nat) (s c : Cfg) : Prop := (∃ j, aIt b j s = c) ∧ aStands b c
theorem Std_one {b : Nat} {s c d : Cfg} (h : Std b s c) (h' : Std b s d) : c = d := by
  obtain ⟨⟨j, rfl⟩, h2⟩ := h
  obtain ⟨⟨k, rfl⟩, h4⟩ := h'
  exact aIt_unique h2 h4
/-- what is kept of a line's beginning -/
def KP (i : Nat → Int32) (a : Nat → Nat → Int32) (kt : Nat) (G : GS) (tl : Tr) : Prop :=
  i 1 = nI kt ∧ i 2 = gSeed G ∧ cV (a 0) kt tl none (i 0) ∧ (21 ≤ kt ∧ sA (a 0) kt = 0) ∧ rGlob (a 0) kt (i 14) (a 10) (a 14) (gGlob G) ∧ rProc (a 0) kt (i 16) (a 15) (a 18) (a 19) (gProcs G) ∧ (∀ k, k < 56 → a 24 k = gParts G k) ∧ (∀ k, k < 4096 → a 25 k = gDots G k) ∧ i 18 = nI (gTold G) ∧ outR (i 21) (i 22) (a 27) (gOut G)
def gh (i : Nat → Int32) (a : Nat → Nat → Int32) (kt : Nat) (bk : Bool) (G : GS) : KS := (i, a, (if bk then kt else 21), (if bk then (gGlob G).length else 0), (if bk then (gProcs G).length else 0))
/-- what is read, and what is fixed -/
def RW (i : Nat → Int32) (a : Nat → Nat → Int32) (tp : Nat → Nat) (N fk fp : Nat) : Prop := tpR i a tp N ∧ i 26 = nI fk ∧ fk < 100 ∧ (fk ≠ 0 → i 25 = nI fp) ∧ i 7 = nI 21
def WC (g : Nat → Nat) (i : Nat → Int32) (a : Nat → Nat → Int32) (cc : Nat) (w : AW) : Prop := match w with
  | (c, G0, tl, bk, tp, N, fk, fp) => ∃ T kt B, CR g i a T (kS (gh i a kt bk G0) c) ∧ (aInv2 c ∧ atRest c ∧ gL B (cGP c)) ∧ RW i a tp N fk fp ∧ FX (a 0) ∧ (16384 ≤ g 1 ∧ g 1 ≤ 340000) ∧ i 3 = b1 bk ∧
    (bk = true → KP i a kt G0 tl ∧ gOk G0 ∧ isL tl = true ∧ gL B (gGP G0) ∧ kt ≤ 186000 + 4 * B) ∧ (cSt c = 1 → bk = true ∧ RM T kt c) ∧ T ≤ 276000 + 4 * B + cc ∧ B + N ≤ 20 * cc
theorem CR_kEx {g : Nat → Nat} {i : Nat → Int32} {a : Nat → Nat → Int32} {T : Nat} {ks : KS} {c : Cfg} (h : CR g i a T (kS ks c)) : kEx i a T (gSetKept c.1 ks) := by
  obtain ⟨G, N, F, L, ph, got, rd⟩ := c
  exact h.1.2.1.2.2.2.2.2.2.2
theorem CR_re {g : Nat → Nat} {i : Nat → Int32} {a : Nat → Nat → Int32} {T : Nat} {ks ks' : KS} {c : Cfg} (h : CR g i a T (kS ks c)) (hk : kEx i a T (gSetKept c.1 ks')) : CR g i a T (kS ks' c) := by
  obtain ⟨G, N, F, L, ph, got, rd⟩ := c
  obtain ⟨⟨h1, ⟨b1, b2, b3, b4, b5, b6, b7⟩, h3⟩, h4⟩ := h
  exact ⟨⟨h1, ⟨b1, b2, b3, b4, b5, b6, b7.1, hk⟩, h3⟩, h4⟩
theorem kFr_refl (i : Nat → Int32) (a : Nat → Nat → Int32) (kt kg kp : Nat) : kFr i a (i, a, kt, kg, kp) := ⟨rfl, rfl, rfl, rfl, rfl, rfl, rfl, rfl, rfl, rfl, rfl, rfl, rfl, rfl, rfl, rfl, rfl, rfl, rfl, rfl, rfl, rfl, rfl, rfl, rfl, rfl, rfl, rfl⟩
/-- a new ghost, as the state now is -/
theorem kEx_new {i : Nat → Int32} {a : Nat → Nat → Int32} {T kt kg kp : Nat} {G : GS} (h1 : kt ≤ T) (h2 : kg ≤ (gGlob G).length) (h3 : kp ≤ (gProcs G).length) : kEx i a T (gSetKept G (i, a, kt, kg, kp)) := ⟨kFr_refl i a kt kg kp, fun _ _ => rfl, h1, fun _ _ => rfl, h2, fun _ _ => rfl, h3⟩
theorem cV_low {f f' : Nat → Int32} {T : Nat} {t : Tr} {v : Int32} (h : cV f T t none v) (hf : ∀ x, x < T → f' x = f x) : cV f' T t none v := cV_up h (Nat.le_refl _) hf
theorem KP_keep {i0 i : Nat → Int32} {a0 a : Nat → Nat → Int32} {T kt : Nat} {G Gx : GS} {tl : Tr} (h : KP i0 a0 kt G tl) (hk : kEx i a T (gSetKept Gx (i0, a0, kt, (gGlob G).length, (gProcs G).length))) : KP i a kt G tl := by
  obtain ⟨p1, p2, p3, p4, p5, p6, p7, p8, p9, p10⟩ := h
  obtain ⟨⟨h0, h1, h2, h3, h4, h5, h6, h7, h8, h9, h10, h11, h12, h13, h14, h15, h16, h17, h18, h19, h20, h21, h22, h23, h24, h25, h26, h27⟩, g1, g2, g3, g4, g5, g6⟩ := hk
  have e0 : ∀ x, x < kt → a 0 x = a0 0 x := g1
  have e10 : ∀ x, x < (gGlob G).length → a 10 x = a0 10 x := g3
  have e15 : ∀ x, x < (gProcs G).length → a 15 x = a0 15 x := g5
  refine ⟨h1.trans p1, h2.trans p2, by rw [show i 0 = i0 0 from h0]; exact cV_low p3 e0, ⟨p4.1, by rw [sA_congr kt e0]; exact p4.2⟩, ?_, ?_, ?_, ?_, h7.trans p9, ?_⟩
  · refine ⟨h5.trans p5.1, p5.2.1, fun k hk => ?_⟩
    rw [e10 k hk, show a 14 = a0 14 from h21]
    exact ⟨cV_low (p5.2.2 k hk).1 e0, cV_low (p5.2.2 k hk).2 e0⟩
  · refine ⟨h6.trans p6.1, p6.2.1, fun k hk => ?_⟩
    rw [e15 k hk, show a 18 = a0 18 from h22, show a 19 = a0 19 from h23]
    exact ⟨cV_low (p6.2.2 k hk).1 e0, cV_low (p6.2.2 k hk).2.1 e0, cV_low (p6.2.2 k hk).2.2 e0⟩
  · intro k hk; rw [show a 24 = a0 24 from h24]; exact p7 k hk
  · intro k hk; rw [show a 25 = a0 25 from h25]; exact p8 k hk
  · rw [show i 21 = i0 21 from h8, show i 22 = i0 22 from h9, show a 27 = a0 27 from h26]; exact p10
theorem RW_keep {i0 i : Nat → Int32} {a0 a : Nat → Nat → Int32} {T kt kg kp : Nat} {Gx : GS} {tp : Nat → Nat} {N fk fp : Nat} (h : RW i0 a0 tp N fk fp) (hk : kEx i a T (gSetKept Gx (i0, a0, kt, kg, kp))) : RW i a tp N fk fp ∧ i 3 = i0 3 := by
  obtain ⟨⟨t1, t2, t3, t4⟩, p2, p3, p4, p5⟩ := h
  obtain ⟨⟨h0, h1, h2, h3, h4, h5, h6, h7, h8, h9, h10, h11, h12, h13, h14, h15, h16, h17, h18, h19, h20, h21, h22, h23, h24, h25, h26, h27⟩, g1⟩ := hk
  exact ⟨⟨⟨h10.trans t1, t2, fun k hk => by rw [show a 31 = a0 31 from h27]; exact t3 k hk, t4⟩, h12.trans p2, p3, fun e => h11.trans (p4 e), h4.trans p5⟩, h3⟩
theorem aInv2_kS {ks : KS} {c : Cfg} : aInv2 (kS ks c) ↔ aInv2 c := Iff.rfl
theorem h_goIdle {n q : Nat} {g : Nat → Nat} {i : Nat → Int32} {a : Nat → Nat → Int32} {x : Int32} (hn : 1 ≤ n) (h : i 35 = nI q) (hq : q ≠ 1) (hq2 : q < 100) : m_Machine_goOn n g i a x = some (i, a, g, (0, 0), nI 0) := by
  obtain ⟨f, hf⟩ : ∃ f, n = f + 1 := ⟨n - 1, by omega⟩
  unfold m_Machine_goOn
  have hm : ∃ y, m_Math_min n x (20000 : Int32) = some y := by
    unfold m_Math_min
    split
    · exact ⟨_, rfl⟩
    · exact ⟨_, rfl⟩
  obtain ⟨y, hy⟩ := hm
  rw [hy, ob0_s]
  have e : ∀ f, m_Machine_goOn_b13 n (f + 1) i a g y (0 : Int32) (0 : Int32) = some (i, a, g, (0, 0), nI 0) := by
    intro f
    rw [m_Machine_goOn_b13]
    split
    · rfl
    · rw [if_neg (show ¬ i 35 = (1 : Int32) by rw [h]; exact fun e => hq ((nI_eq (b := 1) (by omega) (by decide)).mp e))]
      rfl
  have e2 := e f
  rw [← hf] at e2
  exact e2
def Pot (g g' : Nat → Nat) (k : Nat × Nat) : Prop := 16384 * k.1 ≤ k.2 ∧ k.2 + gPot g ≤ gPot g'
theorem Pot_refl (g : Nat → Nat) : Pot g g (0, 0) := ⟨Nat.le_refl _, by show 0 + gPot g ≤ gPot g; omega⟩
theorem Pot_h {g g' : Nat → Nat} {k : Nat × Nat} (h : hGrow g g' k) : Pot g g' k := ⟨h.2.2.2.1, h.2.2.2.2⟩
theorem Pot_trans {g g' g2 : Nat → Nat} {k l : Nat × Nat} (h : Pot g g' k) (h' : Pot g' g2 l) : Pot g g2 (k.1 + l.1, k.2 + l.2) := ⟨by have := h.1; have := h'.1; show 16384 * (k.1 + l.1) ≤ k.2 + l.2; omega, by have := h.2; have := h'.2; show k.2 + l.2 + gPot g ≤ gPot g2; omega⟩
theorem rest_stands {c : Cfg} {b : Nat} (h : atRest c) (hb : cSt c = 1 → b ≤ cDone c) : aStands b c := by
  rcases h with h | ⟨h1, h2⟩
  · exact Or.inl h
  · rcases Classical.em (cSt c = 1) with e | e
    · exact Or.inr ⟨h1, h2, hb e⟩
    · exact Or.inl e
/-- a line goes on (the part that run and go share) -/
theorem W_on {n : Nat} {g : Nat → Nat} {i : Nat → Int32} {a : Nat → Nat → Int32} {T kt B cc z : Nat} {c : Cfg} {G0 : GS} {tl : Tr} {tp : Nat → Nat} {N fk fp : Nat} (hn : 1000000 ≤ n) (hz : z < 2147483648) (h : CR g i a T (kS (gh i a kt true G0) c)) (hv : aInv2 c) (hr : atRest c) (hl : gL B (cGP c)) (hw : RW i a tp N fk fp) (hF : FX (a 0)) (hg : 16384 ≤ g 1 ∧ g 1 ≤ 340000) (h3 : i 3 = b1 true) (hK : KP i a kt G0 tl ∧ gOk G0 ∧ isL tl = true ∧ gL B (gGP G0) ∧ kt ≤ 186000 + 4 * B) (hrm : RM T kt c) (hB : B + N ≤ 20 * cc) (hcc : cc < 513) : ∃ i' a' g' k c', m_Machine_goOn n g i a (nI z) = some (i', a', g', k, nI (cDone c' - cDone c)) ∧ cDone c ≤ cDone c' ∧ Std (cDone c + z) c c' ∧ WC g' i' a' cc (c', G0, tl, true, tp, N, fk, fp) ∧ Pot g g' k := by
  obtain ⟨j, c1, i', a', g', k, T', q1, q2, q3, q4, q5, q6, q7, q8, q9, q10⟩ := h_goOn (n := n) (g := g) (i := i) (a := a) (T := T) (T0 := kt) (z := z) (c := kS (gh i a kt true G0) c) hn (by have := hK.2.2.2.2; omega) hz hr h hv hrm
  have e1 : c1 = kS (gh i a kt true G0) (aIt (cDone c + min z 20000) j c) := by rw [← ek_it]; exact q2.symm
  obtain ⟨c', hc'⟩ : ∃ c', c' = aIt (cDone c + min z 20000) j c := ⟨_, rfl⟩
  rw [← hc'] at e1
  subst e1
  have hr' : atRest c' := q5
  have hd : cDone c ≤ cDone c' := q3
  have hst : aStands (cDone c + z) c' := by
    have q4 : aStands (cDone c + min z 20000) c' := q4
    refine rest_stands hr' (fun e => ?_)
    rcases q4 with q | ⟨q1, q2, q3⟩
    · exact absurd e q
    · omega
  have hkx := CR_kEx q6
  have hkp := KP_keep hK.1 hkx
  have hRM : RM T' kt c' := q10
  have hmd : cMd c' ≤ 30000 := by
    have : aInv2 c' := q7
    exact this.1.2.1.2.2.2.1
  refine ⟨i', a', g', k, c', q1, hd, ⟨?_, hst⟩, ⟨T', kt, B, CR_re q6 (kEx_new hkx.2.2.1 hkx.2.2.2.2.1 hkx.2.2.2.2.2.2), ⟨q7, hr', by rw [hc']; exact gl_it _ j c hl⟩, (RW_keep hw hkx).1, ?_, by rw [q8.2.2.1]; exact hg, (RW_keep hw hkx).2.trans h3, fun _ => ⟨hkp, hK.2⟩, fun _ => ⟨rfl, hRM⟩, ?_, hB⟩, Pot_h q8⟩
  · obtain ⟨j1, h1⟩ := path_up (cDone c + min z 20000) j c
    exact ⟨j1, (h1 _ (by omega)).trans hc'.symm⟩
  · have hk21 := hkp.2.2.2.1.1
    exact FX_keep hF (fun x hx => hkx.2.1 x (by show x < kt; omega))
  · have : T' + cMp c' ≤ kt + 3 * cMd c' := hRM
    omega
theorem cc_up {g : Nat → Nat} {i : Nat → Int32} {a : Nat → Nat → Int32} {cc cc' : Nat} {w : AW} (h : WC g i a cc w) (hc : cc ≤ cc') : WC g i a cc' w := by
  obtain ⟨c, G0, tl, bk, tp, N, fk, fp⟩ := w
  obtain ⟨T, kt, B, h1, h2, h3, h4, h5, h6, h7, h8, h9, h10⟩ := h
  exact ⟨T, kt, B, h1, h2, h3, h4, h5, h6, h7, h8, by omega, by omega⟩
theorem WC_st {g : Nat → Nat} {i : Nat → Int32} {a : Nat → Nat → Int32} {cc : Nat} {c : Cfg} {G0 : GS} {tl : Tr} {bk : Bool} {tp : Nat → Nat} {N fk fp : Nat} (h : WC g i a cc (c, G0, tl, bk, tp, N, fk, fp)) : i 35 = nI (cSt c) ∧ i 37 = nI (cDone c) ∧ cSt c ≤ 4 ∧ cDone c ≤ 20000 := by
  obtain ⟨T, kt, B, h1, h2, h3, h4, h5, h6, h7, h8, h9, h10⟩ := h
  obtain ⟨G, N', F, L, ph, got, rd⟩ := c
  have hv := h2.1.1.2.1
  exact ⟨h1.1.2.2.1.1, h1.1.2.2.1.2.2.1, hv.1, hv.2.2.1⟩
/-- run -/
theorem W_run {n : Nat} {g : Nat → Nat} {i : Nat → Int32} {a : Nat → Nat → Int32} {cc : Nat} {x : Int32} {c : Cfg} {G0 : GS} {tl : Tr} {bk : Bool} {tp : Nat → Nat} {N fk fp : Nat} (hn : 1000000 ≤ n) (hcc : cc < 512) (h : WC g i a cc (c, G0, tl, bk, tp, N, fk, fp)) : ∃ i' a' g' k c', m_World_run n g i a x = some (i', a', g', k, nI (cDone c' - cDone c)) ∧ cDone c ≤ cDone c' ∧ (cSt c = 1 → Std (cDone c + x.toNatClampNeg) c c') ∧ (cSt c ≠ 1 → c' = c) ∧ WC g' i' a' (cc + 1) (c', G0, tl, bk, tp, N, fk, fp) ∧ Pot g g' k := by
  obtain ⟨s1, s2, s3, s4⟩ := WC_st h
  unfold m_World_run
  have idle : ∀ (x : Int32), m_Machine_goOn n g i a x = some (i, a, g, (0, 0), nI 0) → Std (cDone c + x.toNatClampNeg) c c ∨ cSt c ≠ 1 → ∃ i' a' g' k c', obG (m_Machine_goOn n g i a x) (fun i_2 a_3 g_4 r_6 => some (i_2, a_3, g_4, (0, 0), r_6)) = some (i', a', g', k, nI (cDone c' - cDone c)) ∧ cDone c ≤ cDone c' ∧ (cSt c = 1 → Std (cDone c + x.toNatClampNeg) c c') ∧ (cSt c ≠ 1 → c' = c) ∧ WC g' i' a' (cc + 1) (c', G0, tl, bk, tp, N, fk, fp) ∧ Pot g g' k := by
    intro x e hs
    rw [e]
    refine ⟨i, a, g, (0 + 0, 0 + 0), c, ?_, Nat.le_refl _, fun e => hs.elim id (fun q => absurd e q), fun _ => rfl, cc_up h (by omega), Pot_refl g⟩
    rw [Nat.sub_self]
    exact obG_s (k' := (0, 0)) rfl
  rcases Classical.em (cSt c = 1) with e | e
  rotate_left
  · exact idle x (h_goIdle (by omega) s1 e (by omega)) (Or.inr e)
  obtain ⟨T, kt, B, h1, h2, h3, h4, h5, h6, h7, h8, h9, h10⟩ := id h
  obtain ⟨hbk, hrm⟩ := h8 e
  subst hbk
  rcases Classical.em (x < 0) with c1 | c1
  · refine idle x (h_goNo (by omega) c1) (Or.inl ⟨⟨0, rfl⟩, rest_stands h2.2.1 (fun _ => ?_)⟩)
    have : x.toNatClampNeg = 0 := by
      rw [Int32.lt_iff_toInt_lt] at c1
      show x.toInt.toNat = 0
      have : (0 : Int32).toInt = 0 := rfl
      omega
    omega
  · have hx : x = nI x.toNatClampNeg := by
      rw [Int32.lt_iff_toInt_lt] at c1
      have e0 : (0 : Int32).toInt = 0 := rfl
      have e1 : (x.toNatClampNeg : Int) = x.toInt := by
        show ((x.toInt.toNat : Nat) : Int) = x.toInt
        omega
      apply Int32.toInt_inj.mp
      have hlt := Int32.toInt_lt x
      rw [nI_toInt (by omega), e1]
    have hb : x.toNatClampNeg < 2147483648 := by
      have hlt := Int32.toInt_lt x
      show x.toInt.toNat < 2147483648
      omega
    obtain ⟨i', a', g', k, c', q1, q2, q3, q4, q5⟩ := W_on (n := n) (z := x.toNatClampNeg) hn hb h1 h2.1 h2.2.1 h2.2.2 h3 h4 h5 h6 (h7 rfl) hrm h10 (by omega)
    rw [← hx] at q1
    rw [q1]
    exact ⟨i', a', g', (k.1 + 0, k.2 + 0), c', obG_s (k' := (0, 0)) rfl, q2, fun _ => q3, fun hh => absurd e hh, cc_up q4 (by omega), q5⟩
/-- stop -/
theorem W_stop {n : Nat} {g : Nat → Nat} {i : Nat → Int32} {a : Nat → Nat → Int32} {cc : Nat} {c : Cfg} {G0 : GS} {tl : Tr} {bk : Bool} {tp : Nat → Nat} {N fk fp : Nat} (hn : 1000 ≤ n) (h : WC g i a cc (c, G0, tl, bk, tp, N, fk, fp)) : ∃ i' a', m_World_stop n g i a = some (i', a', if cSt c = 1 then nI 1 else nI 0) ∧ WC g i' a' (cc + 1) (aHalt c, G0, tl, bk, tp, N, fk, fp) := by
  obtain ⟨s1, s2, s3, s4⟩ := WC_st h
  rcases Classical.em (cSt c = 1) with e | e
  rotate_left
  · refine ⟨i, a, ?_, by unfold aHalt; rw [if_neg e]; exact cc_up h (by omega)⟩
    unfold m_World_stop
    rw [if_neg e, if_neg (show ¬ i 35 = (1 : Int32) by rw [s1]; exact fun e9 => e ((nI_eq (b := 1) (by omega) (by decide)).mp e9))]
    rfl
  obtain ⟨T, kt, B, h1, h2, h3, h4, h5, h6, h7, h8, h9, h10⟩ := id h
  obtain ⟨hbk, hrm⟩ := h8 e
  subst hbk
  obtain ⟨i', q1, q2, q3, q4, q5⟩ := h_stopW (n := n) (T0 := kt) (c := kS (gh i a kt true G0) c) hn h1 h2.1 hrm
  have eh : aHalt (kS (gh i a kt true G0) c) = kS (gh i a kt true G0) (aHalt c) := by
    unfold aHalt
    exact kI rfl rfl
  rw [eh] at q2 q3 q4 q5
  have hkx := CR_kEx q2
  have hkp := KP_keep (h7 rfl).1 hkx
  refine ⟨i', a, q1, T, kt, B, CR_re q2 (kEx_new hkx.2.2.1 hkx.2.2.2.2.1 hkx.2.2.2.2.2.2), ⟨q3, Or.inl q5, ?_⟩, (RW_keep h3 hkx).1, h4, h5, (RW_keep h3 hkx).2.trans h6, fun _ => ⟨hkp, (h7 rfl).2⟩, fun hh => absurd hh q5, by omega, by omega⟩
  unfold aHalt
  split
  · exact h2.2.2
  · exact h2.2.2

