/-! execute, from its begin -/
/-- the world of the reference at rest -/
def rW0 (i : Nat → Int32) (j : Nat → Int64) (a : Nat → Nat → Int32) (b : Nat → Nat → Int64) (B : RB4) (G : GS) : Prop := rB i B ∧ rC a b B ∧ rGl i a b B (gGlob G) ∧ (rPr i a b B (gProcs G) ∧ ∀ p ∈ gProcs G, aLex p.1 = 0) ∧ rTu i a G ∧ rOut j a (gOut G) ∧ i 46 = gSeed G
def exZ : List Nat := [93, 94, 95, 96, 98, 99, 102, 103, 107, 116, 117, 118]
theorem r_execute {n d bd : Nat} {i : Nat → Int32} {j : Nat → Int64} {a : Nat → Nat → Int32} {b : Nat → Nat → Int64} {B : RB4} {G : GS} {tl : Tr} (hn : 100000 ≤ n) (hd : 1400 ≤ d) (hbd : bd ≤ 3000000000) (h : rW0 i j a b B G) (hg : gOk G) (ho : (gOut G).length + 8001 * 20001 < gOb G) (hr1 : B.2.1 + 9 ≤ 88000) (hr2 : B.2.2.1 ≤ 56000 ∧ B.2.2.2 ≤ 56000) (hl : isL tl = true) (hv : rV a b B tl none (j 101)) : XG bd (aBegin G tl) i j a b B (m_Model_execute n d i j a b (Int64.ofInt (bd : Int))) := by
  obtain ⟨h1, h2, h3, ⟨h4, h4'⟩, h5, h6, h7⟩ := h
  have hB : B.1 ≤ 120000 ∧ B.2.1 ≤ 300000 ∧ B.2.2.1 ≤ 90000 ∧ B.2.2.2 ≤ 90000 := h1.2.2.2.2
  have hph := (phi_ge (a := a) (b := b) B.1).1
  have hph2 := h2.2
  unfold m_Model_execute
  simp only [ob1_s]
  obtain ⟨i1, ei1⟩ : ∃ i1, i1 = upd (upd (upd (upd (upd (upd (upd (upd (upd (upd (upd (upd (upd (upd i 93 0) 94 0) 95 0) 96 0) 97 1) 98 0) 99 0) 102 0) 103 0) 107 0) 116 0) 117 0) 118 0) 92 1 := ⟨_, rfl⟩
  rw [← ei1]
  have z1 : ∀ q, q ∈ exZ → i1 q = 0 := by
    intro q hq
    rw [ei1]
    simp only [exZ, List.mem_cons, List.not_mem_nil, or_false] at hq
    rcases hq with rfl | rfl | rfl | rfl | rfl | rfl | rfl | rfl | rfl | rfl | rfl | rfl <;> rfl
  have z97 : i1 97 = 1 := by rw [ei1]; rfl
  have z92 : i1 92 = 1 := by rw [ei1]; rfl
  have zo : ∀ q, q ∉ exZ → q ≠ 97 → q ≠ 92 → i1 q = i q := by
    intro q hq q97 q92
    rw [ei1, upd_ne q92, upd_ne (nm_ne hq (by decide)), upd_ne (nm_ne hq (by decide)), upd_ne (nm_ne hq (by decide)), upd_ne (nm_ne hq (by decide)), upd_ne (nm_ne hq (by decide)), upd_ne (nm_ne hq (by decide)), upd_ne (nm_ne hq (by decide)), upd_ne (nm_ne hq (by decide)), upd_ne q97, upd_ne (nm_ne hq (by decide)), upd_ne (nm_ne hq (by decide)), upd_ne (nm_ne hq (by decide)), upd_ne (nm_ne hq (by decide))]
  obtain ⟨j1, ej1⟩ : ∃ j1, j1 = vp_updL j 108 (Int64.ofInt (bd : Int)) := ⟨_, rfl⟩
  rw [← ej1]
  have hj1 : ∀ q, q ≠ 108 → j1 q = j q := fun q hq => by rw [ej1]; exact updL_ne hq
  have j1108 : j1 108 = Int64.ofInt (bd : Int) := by rw [ej1]; exact updL_at
  obtain ⟨i2, a2, b2, e1, e2, e3, e4, e5, e6, e7, e8⟩ := r_told (n := n) (i := i1) (j := j1) (by omega) tx11 (by decide) (by decide) (by unfold okLs; decide) (rB_i h1 (zo 18 (by decide) (by decide) (by decide)) (zo 19 (by decide) (by decide) (by decide)) (zo 20 (by decide) (by decide) (by decide)) (zo 21 (by decide) (by decide) (by decide))) h2 (by omega) (by show B.2.1 + 4 ≤ 300000; omega)
  rw [e1, om_s]
  obtain ⟨i3, a3, b3, f1, f2, f3, f4, f5, f6, f7, f8⟩ := r_told (n := n) (i := i2) (j := vp_updL j1 124 (vW B.1)) (by omega) tx12 (by decide) (by decide) (by unfold okLs; decide) e3 e4 (by show B.1 + 1 < 120000; omega) (by show B.2.1 + 4 + 5 ≤ 300000; omega)
  simp only [f1, om_s]
  obtain ⟨B3, eB3⟩ : ∃ B3 : RB4, B3 = (B.1 + 1 + 1, B.2.1 + 4 + 5, B.2.2.1, B.2.2.2) := ⟨_, rfl⟩
  have f2 : rUp a2 b2 (B.1 + 1, B.2.1 + wTrue.length, B.2.2.1, B.2.2.2) a3 b3 B3 := by rw [eB3]; exact f2
  have f3 : rB i3 B3 := by rw [eB3]; exact f3
  have f4 : rC a3 b3 B3 := by rw [eB3]; exact f4
  have f5 : rV a3 b3 B3 (tW wFalse) none (vW (B.1 + 1)) := by rw [eB3]; exact f5
  have hu := rUp_trans e2 f2
  obtain ⟨j3, ej3⟩ : ∃ j3, j3 = vp_updL (vp_updL j1 124 (vW B.1)) 125 (vW (B.1 + 1)) := ⟨_, rfl⟩
  rw [← ej3]
  have hj3 : ∀ q, q ≠ 124 → q ≠ 125 → j3 q = j1 q := fun q q1 q2 => by rw [ej3, updL_ne q2, updL_ne q1]
  have hi3 : ∀ q, q ≠ 18 → q ≠ 19 → i3 q = i1 q := fun q q1 q2 => (f6 q q1 q2).trans (e6 q q1 q2)
  have ha3 : ∀ q, q ∉ [1, 3, 4, 7] → a3 q = a q := fun q hq => (f7 q (nm_ne hq (by decide)) (nm_ne hq (by decide)) (nm_ne hq (by decide)) (nm_ne hq (by decide))).trans (e7 q (nm_ne hq (by decide)) (nm_ne hq (by decide)) (nm_ne hq (by decide)) (nm_ne hq (by decide)))
  have hb3 : ∀ q, q ≠ 9 → b3 q = b q := fun q hq => (f8 q hq).trans (e8 q hq)
  have hv3 := (rV_up hu _).1 _ hv
  have e101 : j3 101 = j 101 := (hj3 101 (by decide) (by decide)).trans (hj1 101 (by decide))
  have etl := r_isL_eq hv3 hl
  have hv3' := hv3
  rw [etl] at hv3'
  obtain ⟨x, p, ex, hx3, _⟩ := rV_tL.mp hv3'
  have hxb : x < 90000 := by have := hx3.1; have := hx3.2.1; omega
  rw [e101, ex, r_whatL (by omega), ob0_s]
  obtain ⟨i4, ei4⟩ : ∃ i4, i4 = upd (upd i3 105 (nI x)) 106 0 := ⟨_, rfl⟩
  rw [← ei4]
  have hi4 : ∀ q, q ≠ 105 → q ≠ 106 → q ≠ 18 → q ≠ 19 → i4 q = i1 q := fun q q1 q2 q3 q4 => by rw [ei4, upd_ne q2, upd_ne q1]; exact hi3 q q3 q4
  have i4z : ∀ q, q ∈ exZ → i4 q = 0 := fun q hq => (hi4 q (fun e => by subst e; revert hq; decide) (fun e => by subst e; revert hq; decide) (fun e => by subst e; revert hq; decide) (fun e => by subst e; revert hq; decide)).trans (z1 q hq)
  have i4o : ∀ q, q ∉ exZ → q ∉ [97, 92, 105, 106, 18, 19] → i4 q = i q := fun q q1 q2 => (hi4 q (nm_ne q2 (by decide)) (nm_ne q2 (by decide)) (nm_ne q2 (by decide)) (nm_ne q2 (by decide))).trans (zo q q1 (nm_ne q2 (by decide)) (nm_ne q2 (by decide)))
  obtain ⟨l, el⟩ : ∃ l, l = lNew 0 tl 1 .nil 0 .nil := ⟨_, rfl⟩
  have hc0 : aBegin G tl = (G, (1, 0, 0, 0, 0), [], [l], 0, none, none) := by rw [el]; rfl
  have hI0 : IV G (1, 0, 0, 0, 0) [] [l] := by
    have := iv_begin hg hl
    rw [hc0] at this
    exact iv_of this
  have hwo : rWo i4 j3 a3 b3 B3 bd G (1, 0, 0, 0, 0) [] := by
    refine ⟨⟨rB_i f3 (by rw [ei4, upd_ne (by decide), upd_ne (by decide)]) (by rw [ei4, upd_ne (by decide), upd_ne (by decide)]) (by rw [ei4, upd_ne (by decide), upd_ne (by decide)]) (by rw [ei4, upd_ne (by decide), upd_ne (by decide)]), f4, ?_⟩, ⟨?_, ?_⟩, ⟨trivial, trivial, i4z 99 (by decide)⟩, rGl_up hu (i4o 36 (by decide) (by decide)) (fun m _ => by rw [ha3 34 (by decide), hb3 35 (by decide)]; exact ⟨rfl, rfl⟩) h3, ⟨rPr_up hu (i4o 33 (by decide) (by decide)) (fun m _ => by rw [ha3 29 (by decide), ha3 30 (by decide), hb3 32 (by decide)]; exact ⟨rfl, rfl, rfl⟩) (fun m _ => by rw [ha3 31 (by decide)]) h4, h4'⟩, rTu_up h5 (fun q q1 q2 => ha3 q (by simp; omega)) (i4o 47 (by decide) (by decide)), ⟨rOut_up h6 ((hj3 48 (by decide) (by decide)).trans (hj1 48 (by decide))) (ha3 45 (by decide)), ?_⟩, (i4o 46 (by decide) (by decide)).trans h7, ⟨i4z 93 (by decide), i4z 95 (by decide), i4z 96 (by decide)⟩, (hj3 108 (by decide) (by decide)).trans j1108, hbd⟩
    · rw [eB3]
      exact ⟨by show B.2.1 + 4 + 5 ≤ 88000 + 0; omega, by show B.2.2.1 ≤ 56000 + 0; omega, by show B.2.2.2 ≤ 56000 + 0; omega⟩
    · have : j3 124 = vW B.1 := by rw [ej3, updL_ne (by decide), updL_at]
      rw [this]
      exact (rV_up f2 _).1 _ e5
    · have : j3 125 = vW (B.1 + 1) := by rw [ej3, updL_at]
      rw [this]
      exact f5
    · show (gOut G).length + 8001 * (20001 - 0) < _
      omega
  have hw : rFull i4 j3 a3 b3 B3 bd G (1, 0, 0, 0, 0) [] [l] := by
    refine ⟨⟨hwo, ⟨(fun h => by rw [el] at h; cases h), (fun h => by rw [el] at h; rcases h with h | h <;> cases h), (fun h => by rw [el] at h; cases h), trivial⟩, ⟨?_, ?_, fun h => ?_⟩, ?_⟩, ?_, ?_, ?_, ?_⟩
    · rw [i4z 118 (by decide), el]; rfl
    · rw [i4z 103 (by decide), el]; rfl
    · rw [el] at h
      have h : 0 < 0 := h
      omega
    · rw [el, eB3]
      exact ⟨by show B.2.2.1 + 0 ≤ 56000 + 0; omega, by show B.2.2.2 + 0 ≤ 56000 + 0; omega⟩
    · rw [hi4 97 (by decide) (by decide) (by decide) (by decide), z97]; rfl
    · rw [i4z 98 (by decide), el]; rfl
    · rw [i4z 116 (by decide), el]; rfl
    · rw [i4z 117 (by decide), el]; rfl
  have hll : lLst l = tl := by rw [el]; rfl
  have hlen : (tMem (lLst l)).length ≤ 90000 := by rw [hll]; exact r_len5 hv3'
  refine exec_l (l := l) hn hd (by rw [el]; rfl) (by rw [el]; rfl) (by rw [el]; rfl) _ n i4 j3 a3 b3 B3 G (1, 0, 0, 0, 0) [] l (by rw [hc0]; exact To_refl) (sameL_refl l) rfl hI0 hw ⟨x, ⟨by rw [ei4, upd_ne (by decide), upd_at], by omega⟩, by rw [hll, ← ex]; exact hv3, by rw [ei4, upd_at, el]; rfl⟩ (by rw [el]; rfl) (i4z 102 (by decide)) (i4z 107 (by decide)) ⟨(hi4 92 (by decide) (by decide) (by decide) (by decide)).trans z92, i4z 94 (by decide)⟩ hu ⟨fun q q1 q2 => i4o q (fun hm => ?_) (fun hm => ?_), fun q q1 q2 => (hj3 q (nm_ne q2 (by decide)) (nm_ne q2 (by decide))).trans (hj1 q (nm_ne q2 (by decide))), fun q hq => ha3 q (fun hm => hq ((show ∀ q ∈ [1, 3, 4, 7], q ∈ chA by decide) q hm)), fun q hq => hb3 q (nm_ne hq (by decide))⟩ rfl (by omega)
  · rcases (show ∀ q ∈ exZ, q ∈ chI ∨ q ∈ exI by decide) q hm with h | h
    · exact q1 h
    · exact q2 h
  · rcases (show ∀ q ∈ [97, 92, 105, 106, 18, 19], q ∈ chI ∨ q ∈ exI by decide) q hm with h | h
    · exact q1 h
    · exact q2 h
/-- the reference at a place of the line -/
def rEz (i : Nat → Int32) (j : Nat → Int64) (a : Nat → Nat → Int32) (b : Nat → Nat → Int64) (B : RB4) (c : Cfg) : Prop := rW0 i j a b B c.1 ∧ rRm B 30000 ∧ (rFr a b B c.2.2.1 ∧ rCp a c.2.2.1 ∧ i 99 = nI c.2.2.1.length) ∧ (i 92 = nI (cSt c) ∧ i 97 = nI c.2.2.2.1.length ∧ i 98 = nI (lvWaits c.2.2.2.1) ∧ i 93 = nI (nDone c.2.1) ∧ i 95 = nI (nCaught c.2.1) ∧ i 96 = nI (nMade c.2.1)) ∧ (cSt c ≠ 1 → i 94 = nI (nErr c.2.1) ∧ c.2.2.2.1 = [] ∧ c.2.2.1 = []) ∧ (cSt c = 1 → rAs i c.1 c.2.2.2.1 ∧ i 94 = 0)
theorem rEz_kS {i : Nat → Int32} {j : Nat → Int64} {a : Nat → Nat → Int32} {b : Nat → Nat → Int64} {B : RB4} {c : Cfg} {ks : KS} (h : rEz i j a b B (kS ks c)) : rEz i j a b B c := h
theorem rEz_of {i : Nat → Int32} {j : Nat → Int64} {a : Nat → Nat → Int32} {b : Nat → Nat → Int64} {B : RB4} {bd : Nat} {c : Cfg} (h : rEnd i j a b B bd c) (hv : aInv2 c) : rEz i j a b B c := by
  obtain ⟨⟨⟨w1, w2, w3⟩, w4, w5, w8, w9, w11, ⟨w12, w13⟩, w14, ⟨w15, w16, w17⟩, w18, w19⟩, h2, h3, h4, h5, h6⟩ := h
  have hm : nMade c.2.1 ≤ 30000 := hv.1.2.1.2.2.2.1
  exact ⟨⟨w1, w2, w8, w9, w11, w12, w14⟩, ⟨by have := w3.1; omega, by have := w3.2.1; omega, by have := w3.2.2; omega⟩, w5, ⟨h2, h3, h4, w15, w16, w17⟩, h5, h6⟩
/-- execute, and how much is said -/
theorem r_exec {n d bd : Nat} {i : Nat → Int32} {j : Nat → Int64} {a : Nat → Nat → Int32} {b : Nat → Nat → Int64} {B : RB4} {G : GS} {tl : Tr} (hn : 100000 ≤ n) (hd : 1400 ≤ d) (hbd : bd ≤ 3000000000) (h : rW0 i j a b B G) (hg : gOk G) (ho : (gOut G).length + 8001 * 20001 + 1 < 9000000000000000000) (hr1 : B.2.1 + 9 ≤ 88000) (hr2 : B.2.2.1 ≤ 56000 ∧ B.2.2.2 ≤ 56000) (hl : isL tl = true) (hv : rV a b B tl none (j 101)) : ∃ i' j' a' b' B' c', m_Model_execute n d i j a b (Int64.ofInt (bd : Int)) = some (i', j', a', b', 0) ∧ rUp a b B a' b' B' ∧ rFx i j a b i' j' a' b' ∧ Std bd (aBegin G tl) c' ∧ aInv2 c' ∧ rEz i' j' a' b' B' c' ∧ (gOut c'.1).length ≤ (gOut G).length + 8001 * 20001 := by
  obtain ⟨ks, eks⟩ : ∃ ks : KS, ks = ((fun _ => 0), (fun _ _ => 0), (gOut G).length + 8001 * 20001 + 1, 0, 0) := ⟨_, rfl⟩
  have eob : gOb (gSetKept G ks) = (gOut G).length + 8001 * 20001 + 1 := by
    show min ks.2.2.1 _ = _
    rw [eks]
    exact Nat.min_eq_left (show (gOut G).length + 8001 * 20001 + 1 ≤ 9000000000000000000 by omega)
  obtain ⟨i', j', a', b', B', c', e1, e2, e3, ⟨k, e4⟩, e5, e6, e7⟩ := r_execute (n := n) (d := d) (bd := bd) (G := gSetKept G ks) hn hd hbd h hg (by rw [eob]; show (gOut G).length + _ < _; omega) hr1 hr2 hl hv
  rw [show aBegin (gSetKept G ks) tl = kS ks (aBegin G tl) from rfl, ek_it] at e4
  subst e4
  refine ⟨i', j', a', b', B', aIt bd k (aBegin G tl), e1, e2, e3, ⟨⟨k, rfl⟩, e5⟩, aInv2_kS.mp e6, rEz_kS (rEz_of e7 e6), ?_⟩
  have h1 := e7.1.2.2.2.2.2.2.1.2
  have h2 : gOb (kS ks (aIt bd k (aBegin G tl))).1 = (gOut G).length + 8001 * 20001 + 1 := eob
  rw [h2] at h1
  have h3 : (gOut (kS ks (aIt bd k (aBegin G tl))).1).length = (gOut (aIt bd k (aBegin G tl)).1).length := rfl
  omega

