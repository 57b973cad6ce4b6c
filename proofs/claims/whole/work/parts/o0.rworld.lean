/-! the world of the document, and how the reference holds it -/
def sBy (x : Nat) : Int32 := Int32.ofInt (if x < 128 then (x : Int) else (x : Int) - 256)
def rTp (i : Nat → Int32) (a : Nat → Nat → Int32) (tp : Nat → Nat) (N : Nat) : Prop := i 74 = nI N ∧ N ≤ 4000 ∧ (∀ k, k < N → a 73 k = sBy (tp k)) ∧ ∀ k, tp k < 256
def WRb (i : Nat → Int32) (j : Nat → Int64) (a : Nat → Nat → Int32) (b : Nat → Nat → Int64) (cc : Nat) (c : Cfg) (G0 : GS) (tl : Tr) (bk : Bool) (B : RB4) : Prop := rEz i j a b B c ∧ (gOut c.1).length ≤ 200000000 * cc ∧ (bk = true → ∃ Bk : RB4, (cSt c ≠ 0 ∧ i 100 = 0) ∧ rKp i j a b Bk G0 tl ∧ rLe Bk B ∧ (Bk.2.1 + 9 ≤ 88000 ∧ Bk.2.2.1 ≤ 56000 ∧ Bk.2.2.2 ≤ 56000) ∧ (gOut G0).length ≤ 200000000 * cc ∧ gOk G0 ∧ isL tl = true) ∧ (bk = false → cSt c ≠ 1 ∧ (cSt c = 0 ∨ i 100 ≠ 0))
def WR (i : Nat → Int32) (j : Nat → Int64) (a : Nat → Nat → Int32) (b : Nat → Nat → Int64) (cc : Nat) (w : AW) : Prop := match w with
  | (c, G0, tl, bk, tp, N, fk, fp) => (∃ B, WRb i j a b cc c G0 tl bk B) ∧ aInv2 c ∧ rTp i a tp N ∧ (i 75 = nI fk ∧ fk < 100 ∧ (fk ≠ 0 → i 76 = nI fp)) ∧ (cSt c = 1 → nErr c.2.1 = 0)
def wcI : List Nat := [18, 19, 20, 21, 33, 36, 46, 47, 59, 60, 61, 62, 63, 64, 65, 66, 92, 93, 94, 95, 96, 97, 98, 99, 100, 103, 104, 118]
def wcA : List Nat := [29, 30, 31, 34, 37, 38, 39, 40, 41, 42, 43, 44, 45, 49, 50, 51, 52, 53, 54, 57, 112, 113, 114]
def wcB : List Nat := [32, 35, 55, 56, 115]
theorem rUp_le {a a' : Nat → Nat → Int32} {b b' : Nat → Nat → Int64} {B B' : RB4} (h : rUp a b B a' b' B) (hl : rLe B' B) : rUp a b B' a' b' B' := by
  obtain ⟨⟨q1, q2, q3, q4, q5, q6, q7, q8⟩, u1, u2, u3, u4⟩ := h
  obtain ⟨l1, l2, l3, l4⟩ := hl
  exact ⟨⟨Nat.le_refl _, by omega, Nat.le_refl _, by omega, Nat.le_refl _, by omega, Nat.le_refl _, by omega⟩, fun x hx => u1 x (by omega), fun x hx => u2 x (by omega), fun x hx => u3 x (by omega), fun x hx => u4 x (by omega)⟩
theorem rC_up {a a' : Nat → Nat → Int32} {b b' : Nat → Nat → Int64} {B : RB4} (h : rC a b B) (hu : rUp a b B a' b' B) (h7 : ∀ x, x < B.1 → a' 7 x = a 7 x) (h9 : ∀ x, x < B.1 → b' 9 x = b 9 x) : rC a' b' B := by
  refine ⟨fun x hx => ?_, ?_⟩
  · obtain ⟨l, hl⟩ := h.1 x hx
    exact ⟨l, rK_up hu (h7 x hx) (h9 x hx) hl⟩
  · rw [phi_congr (a := a) (b := b) B.1 (fun x hx => ⟨(hu.2.1 x hx).2, h9 x hx⟩)]
    exact h.2
theorem rEz_up {i : Nat → Int32} {j : Nat → Int64} {a : Nat → Nat → Int32} {b : Nat → Nat → Int64} {i' : Nat → Int32} {j' : Nat → Int64} {a' : Nat → Nat → Int32} {b' : Nat → Nat → Int64} {B : RB4} {c : Cfg} (h : rEz i j a b B c) (hu : rUp a b B a' b' B) (h7 : ∀ x, x < B.1 → a' 7 x = a 7 x) (h9 : ∀ x, x < B.1 → b' 9 x = b 9 x) (hi : ∀ q, q ∈ wcI → i' q = i q) (hj : j' 48 = j 48) (ha : ∀ q, q ∈ wcA → a' q = a q) (hb : ∀ q, q ∈ wcB → b' q = b q) : rEz i' j' a' b' B c := by
  obtain ⟨⟨w1, w2, w8, ⟨w9, w10⟩, w11, w12, w14⟩, hR, ⟨w5, w6, w7⟩, ⟨k1, k2, k3, k4, k5, k6⟩, h5, h6⟩ := h
  refine ⟨⟨rB_i w1 (hi 18 (by decide)) (hi 19 (by decide)) (hi 20 (by decide)) (hi 21 (by decide)), rC_up w2 hu h7 h9, rGl_up hu (hi 36 (by decide)) (fun m _ => by rw [ha 34 (by decide), hb 35 (by decide)]; exact ⟨rfl, rfl⟩) w8, ⟨rPr_up hu (hi 33 (by decide)) (fun m _ => by rw [ha 29 (by decide), ha 30 (by decide), hb 32 (by decide)]; exact ⟨rfl, rfl, rfl⟩) (fun m _ => by rw [ha 31 (by decide)]) w9, w10⟩, rTu_up w11 (fun q h1 h2 => ha q (by simp [wcA]; omega)) (hi 47 (by decide)), rOut_up w12 hj (ha 45 (by decide)), (hi 46 (by decide)).trans w14⟩, hR, ⟨rFr_up hu _ (fun x _ => by rw [ha 113 (by decide)]) (fun x _ => by rw [ha 114 (by decide), hb 115 (by decide)]; exact ⟨rfl, rfl⟩) w5, rCp_up (ha 112 (by decide)) _ w6, (hi 99 (by decide)).trans w7⟩, ⟨(hi 92 (by decide)).trans k1, (hi 97 (by decide)).trans k2, (hi 98 (by decide)).trans k3, (hi 93 (by decide)).trans k4, (hi 95 (by decide)).trans k5, (hi 96 (by decide)).trans k6⟩, fun hs => ⟨(hi 94 (by decide)).trans (h5 hs).1, (h5 hs).2⟩, fun hs => ⟨rAs_i (h6 hs).1 (hi 118 (by decide)) (hi 103 (by decide)) (hi 104 (by decide)), (hi 94 (by decide)).trans (h6 hs).2⟩⟩
theorem rKp_up {i : Nat → Int32} {j : Nat → Int64} {a : Nat → Nat → Int32} {b : Nat → Nat → Int64} {i' : Nat → Int32} {j' : Nat → Int64} {a' : Nat → Nat → Int32} {b' : Nat → Nat → Int64} {B : RB4} {G : GS} {tl : Tr} (h : rKp i j a b B G tl) (hu : rUp a b B a' b' B) (h7 : ∀ x, x < B.1 → a' 7 x = a 7 x) (hi : ∀ q, 59 ≤ q → q ≤ 66 → i' q = i q) (hj : j' 58 = j 58 ∧ j' 101 = j 101) (ha : ∀ q, q ∈ wcA → a' q = a q) (hb : ∀ q, q ∈ wcB → b' q = b q) : rKp i' j' a' b' B G tl := by
  obtain ⟨i0, j0, a0, b0, h1, h2, h3, h4, h5, h6⟩ := h
  refine ⟨i0, j0, a0, b0, h1, h2, rUp_trans h3 hu, SN_to h4 hi hj.1 (fun q hq => ha q ((show ∀ q ∈ [49, 50, 51, 52, 53, 54, 57], q ∈ wcA by decide) q hq)) ⟨hb 55 (by decide), hb 56 (by decide)⟩, fun x l hw => ?_, by rw [hj.2]; exact h6⟩
  unfold rPm
  rw [h7 x hw.1]
  exact h5 x l hw
theorem WRb_up {i : Nat → Int32} {j : Nat → Int64} {a : Nat → Nat → Int32} {b : Nat → Nat → Int64} {i' : Nat → Int32} {j' : Nat → Int64} {a' : Nat → Nat → Int32} {b' : Nat → Nat → Int64} {cc cc' : Nat} {c : Cfg} {G0 : GS} {tl : Tr} {bk : Bool} {B : RB4} (h : WRb i j a b cc c G0 tl bk B) (hcc : cc ≤ cc') (hu : rUp a b B a' b' B) (h7 : ∀ x, x < B.1 → a' 7 x = a 7 x) (h9 : ∀ x, x < B.1 → b' 9 x = b 9 x) (hi : ∀ q, q ∈ wcI → i' q = i q) (hj : j' 48 = j 48 ∧ j' 58 = j 58 ∧ j' 101 = j 101) (ha : ∀ q, q ∈ wcA → a' q = a q) (hb : ∀ q, q ∈ wcB → b' q = b q) : WRb i' j' a' b' cc' c G0 tl bk B := by
  obtain ⟨h1, h2, h3, h4⟩ := h
  refine ⟨rEz_up h1 hu h7 h9 hi hj.1 ha hb, by omega, fun e => ?_, fun e => ⟨(h4 e).1, by rw [hi 100 (by decide)]; exact (h4 e).2⟩⟩
  obtain ⟨Bk, ⟨k1, k2⟩, k3, k4, k5, k6, k7⟩ := h3 e
  exact ⟨Bk, ⟨k1, (hi 100 (by decide)).trans k2⟩, rKp_up k3 (rUp_le hu k4) (fun x hx => h7 x (by have := k4.1; omega)) (fun q q1 q2 => hi q (by simp [wcI]; omega)) hj.2 ha hb, k4, k5, by omega, k7⟩
theorem rEz_B {i : Nat → Int32} {j : Nat → Int64} {a : Nat → Nat → Int32} {b : Nat → Nat → Int64} {B : RB4} {c : Cfg} (h : rEz i j a b B c) : B.1 ≤ 120000 ∧ B.2.1 ≤ 300000 ∧ B.2.2.1 ≤ 90000 ∧ B.2.2.2 ≤ 90000 := h.1.1.2.2.2.2
/-- only ints and rows that say nothing change -/
theorem WR_i {i : Nat → Int32} {j : Nat → Int64} {a : Nat → Nat → Int32} {b : Nat → Nat → Int64} {i' : Nat → Int32} {a' : Nat → Nat → Int32} {cc cc' : Nat} {w : AW} (h : WR i j a b cc w) (hcc : cc ≤ cc') (hi : ∀ q, q ≠ 0 → q ≠ 25 → q ≠ 28 → i' q = i q) (ha : ∀ q, q ≠ 24 → q ≠ 26 → q ≠ 27 → a' q = a q) : WR i' j a' b cc' w := by
  obtain ⟨c, G0, tl, bk, tp, N, fk, fp⟩ := w
  obtain ⟨⟨B, h1⟩, h2, ⟨t1, t2, t3, t4⟩, ⟨f1, f2, f3⟩, h5⟩ := h
  have hu : rUp a b B a' b B := rUp_same ⟨ha 1 (by decide) (by decide) (by decide), ha 3 (by decide) (by decide) (by decide), ha 4 (by decide) (by decide) (by decide), ha 12 (by decide) (by decide) (by decide), ha 13 (by decide) (by decide) (by decide), ha 14 (by decide) (by decide) (by decide), rfl⟩ (rEz_B h1.1)
  refine ⟨⟨B, WRb_up h1 hcc hu (fun x _ => by rw [ha 7 (by decide) (by decide) (by decide)]) (fun _ _ => rfl) (fun q hq => hi q (fun e => by subst e; revert hq; decide) (fun e => by subst e; revert hq; decide) (fun e => by subst e; revert hq; decide)) ⟨rfl, rfl, rfl⟩ (fun q hq => ha q (fun e => by subst e; revert hq; decide) (fun e => by subst e; revert hq; decide) (fun e => by subst e; revert hq; decide)) (fun _ _ => rfl)⟩, h2, ⟨(hi 74 (by decide) (by decide) (by decide)).trans t1, t2, fun k hk => by rw [ha 73 (by decide) (by decide) (by decide)]; exact t3 k hk, t4⟩, ⟨(hi 75 (by decide) (by decide) (by decide)).trans f1, f2, fun e => (hi 76 (by decide) (by decide) (by decide)).trans (f3 e)⟩, h5⟩
theorem WR_0 {i : Nat → Int32} {j : Nat → Int64} {a : Nat → Nat → Int32} {b : Nat → Nat → Int64} {cc cc' : Nat} {w : AW} (h : WR i j a b cc w) (hcc : cc ≤ cc') : WR (upd i 0 0) j a b cc' w := WR_i h hcc (fun q h1 _ _ => upd_ne h1) (fun _ _ _ _ => rfl)
/-- from the line's begin, to a place of the line -/
theorem WR_again {n d bd : Nat} {i : Nat → Int32} {j : Nat → Int64} {a : Nat → Nat → Int32} {b : Nat → Nat → Int64} {cc : Nat} {c : Cfg} {G0 : GS} {tl : Tr} {bk : Bool} {tp : Nat → Nat} {N fk fp : Nat} {c' : Cfg} (hn : 200000 ≤ n) (hd : 1400 ≤ d) (hbd : bd ≤ 3000000000) (hcc : cc < 1000000) (h : WR i j a b cc (c, G0, tl, bk, tp, N, fk, fp)) (hb : bk = true) (hc : Std bd (aBegin G0 tl) c') : ∃ i' j' a' b', om (m_Model_putBack n (upd i 0 0) j a b) (fun i j a b _ => m_Model_execute n d i j a b (Int64.ofInt (bd : Int))) = some (i', j', a', b', 0) ∧ WR i' j' a' b' (cc + 1) (c', G0, tl, bk, tp, N, fk, fp) ∧ i' 93 = nI (cDone c') := by
  obtain ⟨⟨B, h1, h1', h1'', h1x⟩, h2, ⟨t1, t2, t3, t4⟩, ⟨f1, f2, f3⟩, h5⟩ := h
  obtain ⟨Bk, ⟨k1, k2⟩, k3, k4, k5, k6, k7, k8⟩ := h1'' hb
  obtain ⟨i', j', a', b', B', c2, e1, e2, e3, e4, e5, e6, e7, e8⟩ := r_again (n := n) (d := d) (bd := bd) hn hd hbd (rKp_0 k3) k7 (by omega) k5.1 k5.2 k8
  have ec := Std_one hc e2
  subst ec
  have hx : ∀ q, q ∉ chI → q ∉ exI → q ≠ 0 → i' q = i q := fun q q1 q2 q3 => (e7.1 q q1 q2).trans (upd_ne q3)
  refine ⟨i', j', a', b', e1, ⟨⟨B', e4, by omega, fun _ => ⟨Bk, ⟨(er_begin hc).2, (hx 100 (by decide) (by decide) (by decide)).trans k2⟩, e5, e6, k5, by omega, k7, k8⟩, fun e => by rw [hb] at e; cases e⟩, e3, ⟨(hx 74 (by decide) (by decide) (by decide)).trans t1, t2, fun k hk => by rw [e7.2.2.1 73 (by decide)]; exact t3 k hk, t4⟩, ⟨(hx 75 (by decide) (by decide) (by decide)).trans f1, f2, fun e => (hx 76 (by decide) (by decide) (by decide)).trans (f3 e)⟩, (er_begin hc).1⟩, e4.2.2.2.1.2.2.2.1⟩
theorem WR_bk {i : Nat → Int32} {j : Nat → Int64} {a : Nat → Nat → Int32} {b : Nat → Nat → Int64} {cc : Nat} {c : Cfg} {G0 : GS} {tl : Tr} {bk : Bool} {tp : Nat → Nat} {N fk fp : Nat} (h : WR i j a b cc (c, G0, tl, bk, tp, N, fk, fp)) (hs : cSt c = 1) : bk = true := by
  obtain ⟨⟨B, h1, h1', h1'', h1x⟩, h2⟩ := h
  cases bk with
  | true => rfl
  | false => exact absurd hs (h1x rfl).1
theorem WR_st {i : Nat → Int32} {j : Nat → Int64} {a : Nat → Nat → Int32} {b : Nat → Nat → Int64} {cc : Nat} {c : Cfg} {G0 : GS} {tl : Tr} {bk : Bool} {tp : Nat → Nat} {N fk fp : Nat} (h : WR i j a b cc (c, G0, tl, bk, tp, N, fk, fp)) : i 92 = nI (cSt c) ∧ i 93 = nI (cDone c) ∧ cSt c ≤ 4 ∧ cDone c ≤ 20000 := by
  obtain ⟨⟨B, h1, h1', h1'', h1x⟩, h2, _⟩ := h
  exact ⟨h1.2.2.2.1.1, h1.2.2.2.1.2.2.2.1, h2.1.2.1.1, h2.1.2.1.2.2.1⟩
/-- run -/
theorem R_run {n d z : Nat} {i : Nat → Int32} {j : Nat → Int64} {a : Nat → Nat → Int32} {b : Nat → Nat → Int64} {cc : Nat} {c : Cfg} {G0 : GS} {tl : Tr} {bk : Bool} {tp : Nat → Nat} {N fk fp : Nat} {c' : Cfg} (hn : 200000 ≤ n) (hd : 1400 ≤ d) (hz : 1 ≤ z ∧ z < 2147483648) (hcc : cc < 1000000) (h : WR i j a b cc (c, G0, tl, bk, tp, N, fk, fp)) (hs : cSt c = 1) (hc : Std (cDone c + z) (aBegin G0 tl) c') (hle : cDone c ≤ cDone c') (hc20 : cDone c' ≤ 20000) : ∃ i' j' a' b', m_Model_run n d i j a b (nI z) = some (i', j', a', b', nI (cDone c' - cDone c)) ∧ WR i' j' a' b' (cc + 1) (c', G0, tl, bk, tp, N, fk, fp) := by
  obtain ⟨s1, s2, s3, s4⟩ := WR_st h
  obtain ⟨i', j', a', b', e1, e2, e3⟩ := WR_again (n := n) (d := d) (bd := cDone c + z) hn hd (by omega) hcc h (WR_bk h hs) hc
  refine ⟨i', j', a', b', ?_, e2⟩
  unfold m_Model_run
  have h92 : upd i 0 0 92 = 1 := by rw [upd_ne (by decide), s1, hs]; rfl
  rw [ob1_s, h92, if_pos rfl, show (1 : Int32) = nI 1 from rfl, ile_p (by omega), ob1_s, show upd i 0 0 93 = nI (cDone c) by rw [upd_ne (by decide)]; exact s2]
  have ebd : (nI (cDone c)).toInt64 + (nI z).toInt64 = Int64.ofInt ((cDone c + z : Nat) : Int) := by
    rw [nI_ofInt, nI_ofInt, i32_64 (by omega) (by omega), i32_64 (by omega) (by omega), ← Int64.ofInt_add]
    rfl
  rw [ebd]
  cases hpb : m_Model_putBack n (upd i 0 0) j a b with
  | none => rw [hpb] at e1; cases e1
  | some p =>
    rw [hpb] at e1
    obtain ⟨p1, p2, p3, p4, p5⟩ := p
    rw [om_s] at e1 ⊢
    rw [e1, om_s, e3, sub_n (by omega)]
theorem R_run0 {n d : Nat} {i : Nat → Int32} {j : Nat → Int64} {a : Nat → Nat → Int32} {b : Nat → Nat → Int64} {cc : Nat} {c : Cfg} {G0 : GS} {tl : Tr} {bk : Bool} {tp : Nat → Nat} {N fk fp : Nat} {x : Int32} (h : WR i j a b cc (c, G0, tl, bk, tp, N, fk, fp)) (hx : cSt c ≠ 1 ∨ x < 1) : m_Model_run n d i j a b x = some (upd i 0 0, j, a, b, nI 0) ∧ WR (upd i 0 0) j a b (cc + 1) (c, G0, tl, bk, tp, N, fk, fp) := by
  obtain ⟨s1, s2, s3, s4⟩ := WR_st h
  refine ⟨?_, WR_0 h (by omega)⟩
  unfold m_Model_run
  rw [ob1_s, upd_ne (by decide), s1]
  rcases Classical.em (cSt c = 1) with e | e
  · rw [if_pos (by rw [e]; rfl), if_neg]
    · rfl
    · rcases hx with hx | hx
      · exact absurd e hx
      · intro h9
        rw [Int32.le_iff_toInt_le] at h9
        rw [Int32.lt_iff_toInt_lt] at hx
        omega
  · rw [if_neg (show ¬ nI (cSt c) = (1 : Int32) from fun h9 => e ((nI_eq (b := 1) (by omega) (by decide)).mp h9))]
    rfl
/-- go -/
theorem R_go {n d z : Nat} {i : Nat → Int32} {j : Nat → Int64} {a : Nat → Nat → Int32} {b : Nat → Nat → Int64} {cc : Nat} {c : Cfg} {G0 : GS} {tl : Tr} {bk : Bool} {tp : Nat → Nat} {N fk fp : Nat} {c' : Cfg} (hn : 200000 ≤ n) (hd : 1400 ≤ d) (hcc : cc < 1000000) (h : WR i j a b cc (c, G0, tl, bk, tp, N, fk, fp)) (hb : bk = true) (hz : z ≤ cDone c) (hc : Std z (aBegin G0 tl) c') : ∃ i' j' a' b', m_Model_go n d i j a b (nI z) = some (i', j', a', b', nI 1) ∧ WR i' j' a' b' (cc + 1) (c', G0, tl, bk, tp, N, fk, fp) := by
  obtain ⟨s1, s2, s3, s4⟩ := WR_st h
  obtain ⟨i', j', a', b', e1, e2, e3⟩ := WR_again (n := n) (d := d) (bd := z) hn hd (by omega) hcc h hb hc
  refine ⟨i', j', a', b', ?_, e2⟩
  obtain ⟨⟨B, h1, h1', h1'', h1x⟩, h2, _⟩ := h
  obtain ⟨Bk, ⟨k1, k2⟩, _⟩ := h1'' hb
  have b41 : m_Model_go_b41 n d (upd i 0 0) j a b (nI z) = some (i', j', a', b', nI 1) := by
    unfold m_Model_go_b41
    rw [nI_ofInt z, i32_64 (by omega) (by omega)]
    cases hpb : m_Model_putBack n (upd i 0 0) j a b with
    | none => rw [hpb] at e1; cases e1
    | some p =>
      rw [hpb] at e1
      obtain ⟨p1, p2, p3, p4, p5⟩ := p
      rw [om_s] at e1 ⊢
      rw [e1, om_s]
      rfl
  unfold m_Model_go
  rw [ob1_s, upd_ne (by decide), upd_ne (by decide), upd_ne (by decide), s1, s2, k2, if_neg (show ¬ nI (cSt c) = (0 : Int32) from fun h9 => k1 ((nI_eq (b := 0) (by omega) (by decide)).mp h9)), show (0 : Int32) = nI 0 from rfl, ilt_n (by omega), ilt_n (by omega), if_pos rfl]
  split
  · exact b41
  · exact b41
theorem R_go0 {n d : Nat} {i : Nat → Int32} {j : Nat → Int64} {a : Nat → Nat → Int32} {b : Nat → Nat → Int64} {cc : Nat} {c : Cfg} {G0 : GS} {tl : Tr} {bk : Bool} {tp : Nat → Nat} {N fk fp : Nat} {x : Int32} (h : WR i j a b cc (c, G0, tl, bk, tp, N, fk, fp)) (hx : bk = false ∨ x < 0 ∨ nI (cDone c) < x) : m_Model_go n d i j a b x = some (upd i 0 0, j, a, b, nI 0) ∧ WR (upd i 0 0) j a b (cc + 1) (c, G0, tl, bk, tp, N, fk, fp) := by
  obtain ⟨s1, s2, s3, s4⟩ := WR_st h
  refine ⟨?_, WR_0 h (by omega)⟩
  unfold m_Model_go
  rw [ob1_s, upd_ne (by decide), upd_ne (by decide), upd_ne (by decide), s1, s2]
  rcases Classical.em (cSt c = 0) with e0 | e0
  · rw [if_pos (by rw [e0]; rfl)]; rfl
  rw [if_neg (show ¬ nI (cSt c) = (0 : Int32) from fun h9 => e0 ((nI_eq (b := 0) (by omega) (by decide)).mp h9))]
  rcases Classical.em (x < 0) with e1 | e1
  · rw [if_pos e1]; rfl
  rw [if_neg e1]
  rcases Classical.em (nI (cDone c) < x) with e2 | e2
  · rw [if_pos e2]; rfl
  rw [if_neg e2]
  have hb : bk = false := by rcases hx with h | h | h; exact h; exact absurd h e1; exact absurd h e2
  obtain ⟨⟨B, h1, h1', h1'', h1x⟩, h2, _⟩ := h
  obtain ⟨k1, k2⟩ := h1x hb
  have k3 : i 100 ≠ 0 := by rcases k2 with k | k; exact absurd k e0; exact k
  rw [show (1 : Int32) = nI 1 from rfl, ile_n (by omega), if_neg k3]
  rfl
/-- stop -/
theorem R_stop {n : Nat} {i : Nat → Int32} {j : Nat → Int64} {a : Nat → Nat → Int32} {b : Nat → Nat → Int64} {cc : Nat} {c : Cfg} {G0 : GS} {tl : Tr} {bk : Bool} {tp : Nat → Nat} {N fk fp : Nat} (h : WR i j a b cc (c, G0, tl, bk, tp, N, fk, fp)) : ∃ i', m_Model_stop n i j a b = some (i', j, a, b, if cSt c = 1 then nI 1 else nI 0) ∧ WR i' j a b (cc + 1) (aHalt c, G0, tl, bk, tp, N, fk, fp) := by
  obtain ⟨s1, s2, s3, s4⟩ := WR_st h
  unfold m_Model_stop
  rw [ob1_s, upd_ne (by decide), s1]
  rcases Classical.em (cSt c = 1) with e | e
  rotate_left
  · rw [if_neg e, if_neg (show ¬ nI (cSt c) = (1 : Int32) from fun h9 => e ((nI_eq (b := 1) (by omega) (by decide)).mp h9))]
    refine ⟨upd i 0 0, rfl, ?_⟩
    rw [show aHalt c = c by unfold aHalt; rw [if_neg e]]
    exact WR_0 h (by omega)
  rw [if_pos e, if_pos (by rw [e]; rfl), ob1_s]
  have hb := WR_bk h e
  obtain ⟨⟨B, h1, h1', h1'', h1x⟩, h2, ⟨t1, t2, t3, t4⟩, ⟨f1, f2, f3⟩, h5⟩ := h
  obtain ⟨Bk, ⟨k1, k2⟩, k3, k4, k5, k6, kk7, kk8⟩ := h1'' hb
  have ah : aHalt c = aFinish 4 0 c.1 c.2.1 c.2.2.2.1 := by unfold aHalt; rw [if_pos e]
  obtain ⟨⟨w1, w2, w8, ⟨w9, w10⟩, ⟨w11, w11', w11''⟩, w12, w14⟩, hR, ⟨w5, w6, w7⟩, ⟨y1, y2, y3, y4, y5, y6⟩, y7, y8⟩ := h1
  obtain ⟨⟨y8, y9, y10⟩, y11⟩ := y8 e
  have hen : ∃ i', m_Model_ended n (upd (upd i 0 0) 92 4) j a b = some (i', j, a, b, 0) ∧ i' 47 = nI (lvTold c.2.2.2.1 (gTold c.1)) ∧ i' 97 = 0 ∧ i' 98 = 0 ∧ i' 99 = 0 ∧ i' 92 = 4 ∧ ∀ q, q ∉ [0, 47, 92, 97, 98, 99, 103] → i' q = i q := by
    unfold m_Model_ended
    simp only [ob1_s]
    have e103 : upd (upd (upd (upd (upd i 0 0) 92 4) 97 0) 98 0) 99 0 103 = nI (lvCn k7 c.2.2.2.1) := by
      rw [upd_ne (by decide), upd_ne (by decide), upd_ne (by decide), upd_ne (by decide), upd_ne (by decide)]; exact y9
    have hlc := lvCn_le k7 c.2.2.2.1
    have hl150 : c.2.2.2.1.length ≤ 150 := h2.1.2.2.1.2.1
    rw [e103, show (0 : Int32) = nI 0 from rfl]
    rcases Nat.eq_zero_or_pos (lvCn k7 c.2.2.2.1) with q | q
    · rw [ile_p (by omega)]
      refine ⟨_, rfl, ?_, ?_, ?_, ?_, ?_, fun q hq => ?_⟩
      · rw [lvTold_0 _ _ q, upd_ne (by decide), upd_ne (by decide), upd_ne (by decide), upd_ne (by decide), upd_ne (by decide), upd_ne (by decide)]; exact w11''
      · rw [upd_ne (by decide), upd_ne (by decide), upd_ne (by decide), upd_at]
      · rw [upd_ne (by decide), upd_ne (by decide), upd_at]
      · rw [upd_ne (by decide), upd_at]
      · rw [upd_ne (by decide), upd_ne (by decide), upd_ne (by decide), upd_ne (by decide), upd_at]
      · rw [upd_ne (nm_ne hq (by decide)), upd_ne (nm_ne hq (by decide)), upd_ne (nm_ne hq (by decide)), upd_ne (nm_ne hq (by decide)), upd_ne (nm_ne hq (by decide)), upd_ne (nm_ne hq (by decide))]
    · rw [ile_n (by omega)]
      refine ⟨_, rfl, ?_, ?_, ?_, ?_, ?_, fun q hq => ?_⟩
      · rw [upd_ne (by decide), upd_at, upd_ne (by decide), upd_ne (by decide), upd_ne (by decide), upd_ne (by decide), upd_ne (by decide)]; exact y10 q
      · rw [upd_ne (by decide), upd_ne (by decide), upd_ne (by decide), upd_ne (by decide), upd_at]
      · rw [upd_ne (by decide), upd_ne (by decide), upd_ne (by decide), upd_at]
      · rw [upd_ne (by decide), upd_ne (by decide), upd_at]
      · rw [upd_ne (by decide), upd_ne (by decide), upd_ne (by decide), upd_ne (by decide), upd_ne (by decide), upd_at]
      · rw [upd_ne (nm_ne hq (by decide)), upd_ne (nm_ne hq (by decide)), upd_ne (nm_ne hq (by decide)), upd_ne (nm_ne hq (by decide)), upd_ne (nm_ne hq (by decide)), upd_ne (nm_ne hq (by decide)), upd_ne (nm_ne hq (by decide))]
  obtain ⟨i', n1, n2, n3, n4, n5, n6, n7⟩ := hen
  rw [n1, om_s, ah]
  have hB : B.1 ≤ 120000 ∧ B.2.1 ≤ 300000 ∧ B.2.2.1 ≤ 90000 ∧ B.2.2.2 ≤ 90000 := w1.2.2.2.2
  have hur := rUp_refl (a := a) (b := b) hB
  have hinv : aInv2 (aFinish 4 0 c.1 c.2.1 c.2.2.2.1) := by
    obtain ⟨G, N', F, L, ph, got, rd⟩ := c
    exact iv_fin (F := F) (iv_of h2) (by decide) (by decide) (by decide)
  refine ⟨i', rfl, ⟨B, ⟨⟨rB_i w1 (n7 18 (by decide)) (n7 19 (by decide)) (n7 20 (by decide)) (n7 21 (by decide)), w2, rGl_up hur (n7 36 (by decide)) (fun _ _ => ⟨rfl, rfl⟩) w8, ⟨rPr_up hur (n7 33 (by decide)) (fun _ _ => ⟨rfl, rfl, rfl⟩) (fun _ _ => rfl) w9, w10⟩, ⟨w11, w11', n2⟩, w12, (n7 46 (by decide)).trans w14⟩, hR, ⟨trivial, trivial, n5⟩, ⟨n6, n3, n4, (n7 93 (by decide)).trans y4, (n7 95 (by decide)).trans y5, (n7 96 (by decide)).trans y6⟩, fun _ => ⟨(n7 94 (by decide)).trans y11, rfl, rfl⟩, fun h => by cases h⟩, by show (gOut c.1).length ≤ _; omega, fun _ => ⟨Bk, ⟨(show (4 : Nat) ≠ 0 from by decide), (n7 100 (by decide)).trans k2⟩, rKp_up k3 (rUp_le hur k4) (fun _ _ => rfl) (fun q q1 q2 => n7 q (by simp; omega)) ⟨rfl, rfl⟩ (fun _ _ => rfl) (fun _ _ => rfl), k4, k5, by omega, kk7, kk8⟩, fun e9 => by rw [hb] at e9; cases e9⟩, hinv, ⟨(n7 74 (by decide)).trans t1, t2, t3, t4⟩, ⟨(n7 75 (by decide)).trans f1, f2, fun e9 => (n7 76 (by decide)).trans (f3 e9)⟩, fun h => by cases h⟩

