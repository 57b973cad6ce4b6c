/-! words for values, as results -/
def rTM (G : GS) (N : LN) (F : List Fr) (r : Except Nat (Nat × Tr)) : VRes := match r with
  | .ok (m, v) => .ok (G, nSetMade N m, F, some v)
  | .error e => .error e
theorem eC_G {G : GS} {N : LN} {F : List Fr} {L : List Lv} {r : Except Nat (GS × Option Tr)} : retG G N F L r = eC (rTG N F r) G N F L := by
  cases r with
  | error e => rfl
  | ok p => rfl
theorem eC_M {G : GS} {N : LN} {F : List Fr} {L : List Lv} {r : Except Nat (Nat × Tr)} : retM G N F L r = eC (rTM G N F r) G N F L := by
  cases r with
  | error e => rfl
  | ok p => rfl
theorem vals_y {n : Nat} {i : Nat → Int32} {j : Nat → Int64} {a : Nat → Nat → Int32} {b : Nat → Nat → Int64} {p : Nat} {x y y' : Int64} (h : (32 ≤ p ∧ p ≤ 40) ∨ p = 47) : m_Model_values n i j a b (nI p) x y = m_Model_values n i j a b (nI p) x y' := by
  rcases (by omega : p = 32 ∨ p = 33 ∨ p = 34 ∨ p = 35 ∨ p = 36 ∨ p = 37 ∨ p = 38 ∨ p = 39 ∨ p = 40 ∨ p = 47) with rfl | rfl | rfl | rfl | rfl | rfl | rfl | rfl | rfl | rfl
  · unfold m_Model_values
    simp only [ob1_s, eq_false (show ¬ nI 32 = (33 : Int32) by decide), eq_false (show ¬ nI 32 = (34 : Int32) by decide), eq_false (show ¬ nI 32 = (35 : Int32) by decide), eq_false (show ¬ nI 32 = (36 : Int32) by decide), eq_false (show ¬ nI 32 = (37 : Int32) by decide), eq_false (show ¬ nI 32 = (38 : Int32) by decide), eq_false (show ¬ nI 32 = (39 : Int32) by decide), eq_false (show ¬ nI 32 = (40 : Int32) by decide), eq_false (show ¬ nI 32 = (41 : Int32) by decide), eq_false (show ¬ nI 32 = (42 : Int32) by decide), eq_false (show ¬ nI 32 = (43 : Int32) by decide), eq_false (show ¬ nI 32 = (44 : Int32) by decide), eq_false (show ¬ nI 32 = (45 : Int32) by decide), eq_false (show ¬ nI 32 = (46 : Int32) by decide), eq_false (show ¬ nI 32 = (47 : Int32) by decide), eq_true (show nI 32 = (32 : Int32) by decide), if_true, if_false]
  · unfold m_Model_values
    simp only [ob1_s, eq_false (show ¬ nI 33 = (32 : Int32) by decide), eq_false (show ¬ nI 33 = (34 : Int32) by decide), eq_false (show ¬ nI 33 = (35 : Int32) by decide), eq_false (show ¬ nI 33 = (36 : Int32) by decide), eq_false (show ¬ nI 33 = (37 : Int32) by decide), eq_false (show ¬ nI 33 = (38 : Int32) by decide), eq_false (show ¬ nI 33 = (39 : Int32) by decide), eq_false (show ¬ nI 33 = (40 : Int32) by decide), eq_false (show ¬ nI 33 = (41 : Int32) by decide), eq_false (show ¬ nI 33 = (42 : Int32) by decide), eq_false (show ¬ nI 33 = (43 : Int32) by decide), eq_false (show ¬ nI 33 = (44 : Int32) by decide), eq_false (show ¬ nI 33 = (45 : Int32) by decide), eq_false (show ¬ nI 33 = (46 : Int32) by decide), eq_false (show ¬ nI 33 = (47 : Int32) by decide), eq_true (show nI 33 = (33 : Int32) by decide), if_true, if_false]
  · unfold m_Model_values
    simp only [ob1_s, eq_false (show ¬ nI 34 = (32 : Int32) by decide), eq_false (show ¬ nI 34 = (33 : Int32) by decide), eq_false (show ¬ nI 34 = (35 : Int32) by decide), eq_false (show ¬ nI 34 = (36 : Int32) by decide), eq_false (show ¬ nI 34 = (37 : Int32) by decide), eq_false (show ¬ nI 34 = (38 : Int32) by decide), eq_false (show ¬ nI 34 = (39 : Int32) by decide), eq_false (show ¬ nI 34 = (40 : Int32) by decide), eq_false (show ¬ nI 34 = (41 : Int32) by decide), eq_false (show ¬ nI 34 = (42 : Int32) by decide), eq_false (show ¬ nI 34 = (43 : Int32) by decide), eq_false (show ¬ nI 34 = (44 : Int32) by decide), eq_false (show ¬ nI 34 = (45 : Int32) by decide), eq_false (show ¬ nI 34 = (46 : Int32) by decide), eq_false (show ¬ nI 34 = (47 : Int32) by decide), eq_true (show nI 34 = (34 : Int32) by decide), if_true, if_false]
  · unfold m_Model_values
    simp only [ob1_s, eq_false (show ¬ nI 35 = (32 : Int32) by decide), eq_false (show ¬ nI 35 = (33 : Int32) by decide), eq_false (show ¬ nI 35 = (34 : Int32) by decide), eq_false (show ¬ nI 35 = (36 : Int32) by decide), eq_false (show ¬ nI 35 = (37 : Int32) by decide), eq_false (show ¬ nI 35 = (38 : Int32) by decide), eq_false (show ¬ nI 35 = (39 : Int32) by decide), eq_false (show ¬ nI 35 = (40 : Int32) by decide), eq_false (show ¬ nI 35 = (41 : Int32) by decide), eq_false (show ¬ nI 35 = (42 : Int32) by decide), eq_false (show ¬ nI 35 = (43 : Int32) by decide), eq_false (show ¬ nI 35 = (44 : Int32) by decide), eq_false (show ¬ nI 35 = (45 : Int32) by decide), eq_false (show ¬ nI 35 = (46 : Int32) by decide), eq_false (show ¬ nI 35 = (47 : Int32) by decide), eq_true (show nI 35 = (35 : Int32) by decide), if_true, if_false]
  · unfold m_Model_values
    simp only [ob1_s, eq_false (show ¬ nI 36 = (32 : Int32) by decide), eq_false (show ¬ nI 36 = (33 : Int32) by decide), eq_false (show ¬ nI 36 = (34 : Int32) by decide), eq_false (show ¬ nI 36 = (35 : Int32) by decide), eq_false (show ¬ nI 36 = (37 : Int32) by decide), eq_false (show ¬ nI 36 = (38 : Int32) by decide), eq_false (show ¬ nI 36 = (39 : Int32) by decide), eq_false (show ¬ nI 36 = (40 : Int32) by decide), eq_false (show ¬ nI 36 = (41 : Int32) by decide), eq_false (show ¬ nI 36 = (42 : Int32) by decide), eq_false (show ¬ nI 36 = (43 : Int32) by decide), eq_false (show ¬ nI 36 = (44 : Int32) by decide), eq_false (show ¬ nI 36 = (45 : Int32) by decide), eq_false (show ¬ nI 36 = (46 : Int32) by decide), eq_false (show ¬ nI 36 = (47 : Int32) by decide), eq_true (show nI 36 = (36 : Int32) by decide), if_true, if_false]
  · unfold m_Model_values
    simp only [ob1_s, eq_false (show ¬ nI 37 = (32 : Int32) by decide), eq_false (show ¬ nI 37 = (33 : Int32) by decide), eq_false (show ¬ nI 37 = (34 : Int32) by decide), eq_false (show ¬ nI 37 = (35 : Int32) by decide), eq_false (show ¬ nI 37 = (36 : Int32) by decide), eq_false (show ¬ nI 37 = (38 : Int32) by decide), eq_false (show ¬ nI 37 = (39 : Int32) by decide), eq_false (show ¬ nI 37 = (40 : Int32) by decide), eq_false (show ¬ nI 37 = (41 : Int32) by decide), eq_false (show ¬ nI 37 = (42 : Int32) by decide), eq_false (show ¬ nI 37 = (43 : Int32) by decide), eq_false (show ¬ nI 37 = (44 : Int32) by decide), eq_false (show ¬ nI 37 = (45 : Int32) by decide), eq_false (show ¬ nI 37 = (46 : Int32) by decide), eq_false (show ¬ nI 37 = (47 : Int32) by decide), eq_true (show nI 37 = (37 : Int32) by decide), if_true, if_false]
  · unfold m_Model_values
    simp only [ob1_s, eq_false (show ¬ nI 38 = (32 : Int32) by decide), eq_false (show ¬ nI 38 = (33 : Int32) by decide), eq_false (show ¬ nI 38 = (34 : Int32) by decide), eq_false (show ¬ nI 38 = (35 : Int32) by decide), eq_false (show ¬ nI 38 = (36 : Int32) by decide), eq_false (show ¬ nI 38 = (37 : Int32) by decide), eq_false (show ¬ nI 38 = (39 : Int32) by decide), eq_false (show ¬ nI 38 = (40 : Int32) by decide), eq_false (show ¬ nI 38 = (41 : Int32) by decide), eq_false (show ¬ nI 38 = (42 : Int32) by decide), eq_false (show ¬ nI 38 = (43 : Int32) by decide), eq_false (show ¬ nI 38 = (44 : Int32) by decide), eq_false (show ¬ nI 38 = (45 : Int32) by decide), eq_false (show ¬ nI 38 = (46 : Int32) by decide), eq_false (show ¬ nI 38 = (47 : Int32) by decide), eq_true (show nI 38 = (38 : Int32) by decide), if_true, if_false]
  · unfold m_Model_values
    simp only [ob1_s, eq_false (show ¬ nI 39 = (32 : Int32) by decide), eq_false (show ¬ nI 39 = (33 : Int32) by decide), eq_false (show ¬ nI 39 = (34 : Int32) by decide), eq_false (show ¬ nI 39 = (35 : Int32) by decide), eq_false (show ¬ nI 39 = (36 : Int32) by decide), eq_false (show ¬ nI 39 = (37 : Int32) by decide), eq_false (show ¬ nI 39 = (38 : Int32) by decide), eq_false (show ¬ nI 39 = (40 : Int32) by decide), eq_false (show ¬ nI 39 = (41 : Int32) by decide), eq_false (show ¬ nI 39 = (42 : Int32) by decide), eq_false (show ¬ nI 39 = (43 : Int32) by decide), eq_false (show ¬ nI 39 = (44 : Int32) by decide), eq_false (show ¬ nI 39 = (45 : Int32) by decide), eq_false (show ¬ nI 39 = (46 : Int32) by decide), eq_false (show ¬ nI 39 = (47 : Int32) by decide), eq_true (show nI 39 = (39 : Int32) by decide), if_true, if_false]
  · unfold m_Model_values
    simp only [ob1_s, eq_false (show ¬ nI 40 = (32 : Int32) by decide), eq_false (show ¬ nI 40 = (33 : Int32) by decide), eq_false (show ¬ nI 40 = (34 : Int32) by decide), eq_false (show ¬ nI 40 = (35 : Int32) by decide), eq_false (show ¬ nI 40 = (36 : Int32) by decide), eq_false (show ¬ nI 40 = (37 : Int32) by decide), eq_false (show ¬ nI 40 = (38 : Int32) by decide), eq_false (show ¬ nI 40 = (39 : Int32) by decide), eq_false (show ¬ nI 40 = (41 : Int32) by decide), eq_false (show ¬ nI 40 = (42 : Int32) by decide), eq_false (show ¬ nI 40 = (43 : Int32) by decide), eq_false (show ¬ nI 40 = (44 : Int32) by decide), eq_false (show ¬ nI 40 = (45 : Int32) by decide), eq_false (show ¬ nI 40 = (46 : Int32) by decide), eq_false (show ¬ nI 40 = (47 : Int32) by decide), eq_true (show nI 40 = (40 : Int32) by decide), if_true, if_false]
  · unfold m_Model_values
    simp only [ob1_s, eq_false (show ¬ nI 47 = (32 : Int32) by decide), eq_false (show ¬ nI 47 = (33 : Int32) by decide), eq_false (show ¬ nI 47 = (34 : Int32) by decide), eq_false (show ¬ nI 47 = (35 : Int32) by decide), eq_false (show ¬ nI 47 = (36 : Int32) by decide), eq_false (show ¬ nI 47 = (37 : Int32) by decide), eq_false (show ¬ nI 47 = (38 : Int32) by decide), eq_false (show ¬ nI 47 = (39 : Int32) by decide), eq_false (show ¬ nI 47 = (40 : Int32) by decide), eq_false (show ¬ nI 47 = (41 : Int32) by decide), eq_false (show ¬ nI 47 = (42 : Int32) by decide), eq_false (show ¬ nI 47 = (43 : Int32) by decide), eq_false (show ¬ nI 47 = (44 : Int32) by decide), eq_false (show ¬ nI 47 = (45 : Int32) by decide), eq_false (show ¬ nI 47 = (46 : Int32) by decide), eq_true (show nI 47 = (47 : Int32) by decide), if_true, if_false]
theorem num_y {n : Nat} {i : Nat → Int32} {j : Nat → Int64} {a : Nat → Nat → Int32} {b : Nat → Nat → Int64} {x y y' : Int32} : m_Model_numbers n i j a b (nI 24) x y = m_Model_numbers n i j a b (nI 24) x y' := by
  unfold m_Model_numbers m_Model_numbers_b23
  rw [if_neg (show ¬ nI 24 = (22 : Int32) by decide), if_neg (show ¬ nI 24 = (22 : Int32) by decide), if_neg (show ¬ nI 24 = (23 : Int32) by decide), if_neg (show ¬ nI 24 = (23 : Int32) by decide), if_neg (show ¬ nI 24 = (19 : Int32) by decide), if_neg (show ¬ nI 24 = (19 : Int32) by decide), if_neg (show ¬ nI 24 = (20 : Int32) by decide), if_neg (show ¬ nI 24 = (20 : Int32) by decide), if_neg (show ¬ nI 24 = (21 : Int32) by decide), if_neg (show ¬ nI 24 = (21 : Int32) by decide), if_neg (show ¬ nI 24 = (22 : Int32) by decide), if_neg (show ¬ nI 24 = (22 : Int32) by decide), if_neg (show ¬ nI 24 = (23 : Int32) by decide), if_neg (show ¬ nI 24 = (23 : Int32) by decide), if_pos (show nI 24 = (24 : Int32) by decide), if_pos (show nI 24 = (24 : Int32) by decide)]
theorem rTG_n {code : Nat} (hc : 20 ≤ code ∧ code ≤ 27) (x y : Int) (v u : Tr) (G : GS) (N : LN) (F : List Fr) : rTG N F (aNumber code x y v u G) = rNo G N F (nRes code x y) := by
  rw [nRes_a hc]
  cases nRes code x y with
  | error e => rfl
  | ok t => rfl
theorem nRes_25 (x y y' : Int) : nRes 25 x y = nRes 25 x y' := rfl
/-- numbers, but for and, or, not -/
theorem VR_num {n : Nat} {i : Nat → Int32} {j : Nat → Int64} {a : Nat → Nat → Int32} {b : Nat → Nat → Int64} {B : RB4} {bd : Nat} {G : GS} {N : LN} {F : List Fr} {code : Nat} {x y : Int} {y' : Int32} {v u : Tr} (h : rWo i j a b B bd G N F) (hc : 20 ≤ code ∧ code ≤ 28) (hx : -1000000000 ≤ x ∧ x ≤ 1000000000) (hy : code ≠ 25 → code ≠ 28 → y' = Int32.ofInt y ∧ -1000000000 ≤ y ∧ y ≤ 1000000000) : VR i j a b B bd G N F (rTG N F (aNumber code x y v u G)) (m_Model_numbers n i j a b (nI (code - 1)) (Int32.ofInt x) y') := by
  rcases Classical.em (code = 28) with c | c
  · subst c
    have ea : aNumber 28 x y v u G = if x < 1 then .error 3 else .ok (gSetSeed G (aRnd (gSeed G)), some (tN ((aRnd (gSeed G) &&& 2147483647).toInt % x))) := rfl
    rw [ea]
    rcases r_random (n := n) (i := i) (j := j) (a := a) (b := b) (B := B) (y := y') hx with ⟨h1, h2⟩ | ⟨h1, i', h2, h3, h4, h5⟩
    · rw [if_pos h1]
      exact VR_fail h h2
    · rw [if_neg (by omega)]
      obtain ⟨⟨w1, w2, w3⟩, w4, ⟨w5, w6, w7⟩, w8, ⟨w9, w10⟩, w11, ⟨w12, w13⟩, w14, ⟨w15, w16, w17⟩, w18, w19⟩ := id h
      rw [w14] at h2 h3 h5
      have hu := rUp_refl (a := a) (b := b) (rWo_B h)
      refine ⟨i', j, a, b, _, B, h2, hu, ⟨fun q hq => h4 q (nm_ne hq (by decide)), fun _ _ => rfl, fun _ _ => rfl, fun _ _ => rfl⟩, ⟨fun q hq => h4 q (fun e => by subst e; revert hq; decide), fun _ _ => rfl, fun _ _ => rfl⟩, h4 102 (by decide), ⟨⟨rB_i w1 (h4 18 (by decide)) (h4 19 (by decide)) (h4 20 (by decide)) (h4 21 (by decide)), w2, w3⟩, w4, ⟨w5, w6, (h4 99 (by decide)).trans w7⟩, rGl_up hu (h4 36 (by decide)) (fun _ _ => ⟨rfl, rfl⟩) w8, ⟨rPr_up hu (h4 33 (by decide)) (fun _ _ => ⟨rfl, rfl, rfl⟩) (fun _ _ => rfl) w9, w10⟩, rTu_up w11 (fun _ _ _ => rfl) (h4 47 (by decide)), ⟨w12, w13⟩, h3, ⟨(h4 93 (by decide)).trans w15, (h4 95 (by decide)).trans w16, (h4 96 (by decide)).trans w17⟩, w18, w19⟩, h5, gR_refl⟩
  rw [rTG_n (by omega)]
  rcases Classical.em (code = 25) with d | d
  · subst d
    rw [nRes_25 x y 0]
    refine VR_ans h ?_
    have := r_numbers (n := n) (i := i) (j := j) (a := a) (b := b) (B := B) (code := 25) (x := x) (y := 0) h.2.1 (by omega) hx (by omega)
    rw [show (25 - 1 : Nat) = 24 from rfl] at this ⊢
    rw [num_y (y' := y')] at this
    exact this
  · obtain ⟨rfl, y1, y2⟩ := hy d c
    exact VR_ans h (r_numbers h.2.1 (by omega) hx ⟨y1, y2⟩)
theorem r_isTrue {n : Nat} {i : Nat → Int32} {j : Nat → Int64} {a : Nat → Nat → Int32} {b : Nat → Nat → Int64} {B : RB4} {t : Tr} {v : Int64} (hn : 100 ≤ n) (h : rV a b B t none v) (hw : isW t = true) : m_Model_isTrue n i j a b v = some (b1 (tLet t == wTrue)) := by
  obtain ⟨x, rfl, hx⟩ := r_isW_eq h hw
  have hxb : x < 120000 := by have := hx.1; have := hx.2.1; omega
  unfold m_Model_isTrue
  rw [r_whatW (by omega), ob0_s, r_isText hn hx tx11, ob0_s]
  rcases Classical.em (tLet t = wTrue) with c | c
  · rw [decide_eq_true c, beq_iff_eq.mpr c]; rfl
  · rw [decide_eq_false c, beq_eq_false_iff_ne.mpr c]; rfl
theorem VR_truth {n : Nat} {i : Nat → Int32} {j : Nat → Int64} {a : Nat → Nat → Int32} {b : Nat → Nat → Int64} {B : RB4} {bd : Nat} {G : GS} {N : LN} {F : List Fr} (q : Bool) (h : rWo i j a b B bd G N F) : VR i j a b B bd G N F (.ok (G, N, F, some (aTruth q))) (ob0 (m_Model_truth n i j a b (b1 q)) (fun r => some (i, j, a, b, r))) := by
  obtain ⟨v, e1, e2⟩ := r_truth (n := n) (i := i) h.2.1 q
  rw [e1, ob0_s]
  exact VR_v h rfl e2
theorem rC_list {a a' : Nat → Nat → Int32} {b b' : Nat → Nat → Int64} {B B' : RB4} (hu : rUp a b B a' b' B') (hC : rC a b B) (h1 : B'.1 = B.1) (h2 : B'.2.1 = B.2.1) (h4 : a' 4 = a 4) (h7 : a' 7 = a 7) (h9 : b' 9 = b 9) : rC a' b' B' := by
  refine ⟨fun x hx => ?_, ?_⟩
  · obtain ⟨l, k1, k2, k3⟩ := hC.1 x (by omega)
    refine ⟨l, rW_up hu k1, ?_, ?_⟩
    · unfold rPm; rw [h7]; exact k2
    · rcases k3 with k3 | ⟨t, k3, k4⟩
      · exact Or.inl (by rw [h9]; exact k3)
      · exact Or.inr ⟨t, k3, by rw [h9]; exact (rV_up hu t).1 _ k4⟩
  · rw [h1, h2, phi_congr B.1 (fun x _ => ⟨by rw [h4], by rw [h9]⟩)]
    exact hC.2
/-- equality changes two rows alone -/
theorem oB_up {b b' : Nat → Nat → Int64} (h : oB b b') : ∀ q, q ∉ upB → b' q = b q := fun q hq => h q (nm_ne hq (by decide)) (nm_ne hq (by decide))
theorem oB_rUp {a : Nat → Nat → Int32} {b b' : Nat → Nat → Int64} {B : RB4} (h : oB b b') (hB : B.1 ≤ 120000 ∧ B.2.1 ≤ 300000 ∧ B.2.2.1 ≤ 90000 ∧ B.2.2.2 ≤ 90000) : rUp a b B a b' B := rUp_same ⟨rfl, rfl, rfl, rfl, rfl, rfl, h 10 (by decide) (by decide)⟩ hB
theorem VR_oB {i : Nat → Int32} {j : Nat → Int64} {a : Nat → Nat → Int32} {b : Nat → Nat → Int64} {b' : Nat → Nat → Int64} {B : RB4} {bd : Nat} {G : GS} {N : LN} {F : List Fr} {t : Tr} {v : Int64} {o : Option ((Nat → Int32) × (Nat → Int64) × (Nat → Nat → Int32) × (Nat → Nat → Int64) × Int64)} (h : rWo i j a b B bd G N F) (hb : oB b b') (eo : o = some (i, j, a, b', v)) (hv : rV a b' B t none v) : VR i j a b B bd G N F (.ok (G, N, F, some t)) o :=
  VR_ok (m := nMade N) h eo (oB_rUp hb (rWo_B h)) h.1.1 (rC_list (oB_rUp hb (rWo_B h)) h.1.2.1 rfl rfl rfl rfl (hb 9 (by decide) (by decide))) h.1.2.2 h.2.2.2.2.2.2.2.2.1.2.2 (fun _ _ => rfl) (oB_up hb) (fun _ _ => rfl) rfl hv gR_refl
theorem VR_equal {n : Nat} {i : Nat → Int32} {j : Nat → Int64} {a : Nat → Nat → Int32} {b : Nat → Nat → Int64} {B : RB4} {bd : Nat} {G : GS} {N : LN} {F : List Fr} {t u : Tr} {x y : Int64} (hn : 2000 ≤ n) (h : rWo i j a b B bd G N F) (ht : rV a b B t none x) (hu : rV a b B u none y) : VR i j a b B bd G N F (.ok (G, N, F, some (aTruth (dec (t = u))))) (om (m_Model_equal n i j a b x y) (fun i_26 j_27 a_28 b_29 r_30 => ob0 (m_Model_truth n i_26 j_27 a_28 b_29 r_30) (fun r_32 => some (i_26, j_27, a_28, b_29, r_32)))) := by
  obtain ⟨b', e1, e2⟩ := r_equal (n := n) (i := i) (j := j) hn (rWo_B h) ht hu
  obtain ⟨v, f1, f2⟩ := r_truth (n := n) (i := i) (rTr_up (oB_rUp e2 (rWo_B h)) h.2.1 rfl rfl) (dec (t = u))
  rw [e1, om_s, f1, ob0_s]
  exact VR_oB h e2 rfl f2
theorem VR_list {i : Nat → Int32} {j : Nat → Int64} {a : Nat → Nat → Int32} {b : Nat → Nat → Int64} {B : RB4} {bd : Nat} {G : GS} {N : LN} {F : List Fr} {ms : List Tr} {o : Option ((Nat → Int32) × (Nat → Int64) × (Nat → Nat → Int32) × (Nat → Nat → Int64) × Int64)} (h : rWo i j a b B bd G N F) (hm : nMade N ≤ 30000) (hl : LST i j a b B (nMade N) ms o) : VR i j a b B bd G N F (rTM G N F (aList (nMade N) ms)) o := by
  obtain ⟨i', a', b', v, B', e0, e1, e2, ⟨e3, e4, e5, e6⟩, e7, e8, e9⟩ := hl
  have ha : ∀ q, q ∉ upA → a' q = a q := fun q hq => e7 q (nm_ne hq (by decide)) (nm_ne hq (by decide)) (nm_ne hq (by decide))
  have hb : ∀ q, q ∉ upB → b' q = b q := fun q hq => e8 q (nm_ne hq (by decide))
  have hC := rC_list e1 h.1.2.1 e3 e4 (e7 4 (by decide) (by decide) (by decide)) (e7 7 (by decide) (by decide) (by decide)) (e8 9 (by decide))
  obtain ⟨r1, r2, r3⟩ := h.1.2.2
  rcases e9 with ⟨g1, g2, g3, g4, g5⟩ | ⟨g1, g2, g3, g4⟩
  · rw [g1]
    have f20 : i' 20 = i 20 := g5 20 (by decide) (by decide)
    have f21 : i' 21 = i 21 := g5 21 (by decide) (by decide)
    have c1 : nI B'.2.2.1 = nI B.2.2.1 := by rw [← e2.2.2.1, f21, h.1.1.2.2.1]
    have c2 : nI B'.2.2.2 = nI B.2.2.2 := by rw [← e2.2.2.2.1, f20, h.1.1.2.2.2.1]
    have d1 := (nI_eq (by have := e2.2.2.2.2.2.2.1; omega) (by have := h.1.1.2.2.2.2.2.2.1; omega)).mp c1
    have d2 := (nI_eq (by have := e2.2.2.2.2.2.2.2; omega) (by have := h.1.1.2.2.2.2.2.2.2; omega)).mp c2
    exact VR_err h e0 e1 e2 hC ⟨by omega, by omega, by omega⟩ (g5 96 (by decide) (by decide)) ha hb (fun q hq => g5 q (nm_ne hq (by decide)) (nm_ne hq (by decide))) g3 g4 ⟨Nat.le_refl _, by omega, by omega⟩
  · rw [g1]
    exact VR_ok h e0 e1 e2 hC ⟨by omega, by omega, by omega⟩ g3 ha hb (fun q hq => g4 q (nm_ne hq (by decide)) (nm_ne hq (by decide)) (nm_ne hq (by decide))) (g4 102 (by decide) (by decide) (by decide)) g2 ⟨by omega, by omega, by omega⟩
theorem rTM_no (G : GS) (N : LN) (F : List Fr) (r : Except Nat Tr) : (match (match r with
    | .ok t => (.ok (nMade N, t) : Except Nat (Nat × Tr))
    | .error e => .error e) with
  | .ok (m, v) => (.ok (G, nSetMade N m, F, some v) : VRes)
  | .error e => .error e) = rNo G N F r := by
  cases r with
  | error e => rfl
  | ok t => rfl
theorem val_flat {code : Nat} (hc : (33 ≤ code ∧ code ≤ 39) ∨ code = 42) (G : GS) (N : LN) (F : List Fr) (v u : Tr) : rTM G N F (aValue code v u (nMade N)) = rNo G N F (vRes code v u) := by
  rcases (by omega : code = 33 ∨ code = 34 ∨ code = 35 ∨ code = 36 ∨ code = 37 ∨ code = 38 ∨ code = 39 ∨ code = 42) with rfl | rfl | rfl | rfl | rfl | rfl | rfl | rfl
  · rfl
  · rfl
  · rfl
  · rfl
  · rfl
  · exact rTM_no G N F (aItem 1 v)
  · exact rTM_no G N F (aItem (tMem v).length v)
  · exact rTM_no G N F (aItem (tNum v) u)
/-- words that give values of lists and words: 33 to 49 -/
theorem VR_values {n : Nat} {i : Nat → Int32} {j : Nat → Int64} {a : Nat → Nat → Int32} {b : Nat → Nat → Int64} {B : RB4} {bd : Nat} {G : GS} {N : LN} {F : List Fr} {code : Nat} {t u : Tr} {x y : Int64} (hn : 100000 ≤ n) (h : rWo i j a b B bd G N F) (hm : nMade N ≤ 30000) (hc : 33 ≤ code ∧ code ≤ 48) (ht : rV a b B t none x) (hu : (code ≤ 41 ∨ code = 48) ∨ rV a b B u none y) (h1 : (37 ≤ code ∧ code ≤ 41) ∨ code = 48 → isL t = true) (h2 : code = 42 → isN t = true ∧ isL u = true) (h3 : code = 43 ∨ code = 44 ∨ code = 47 → isL u = true) : VR i j a b B bd G N F (rTM G N F (aValue code t u (nMade N))) (m_Model_values n i j a b (nI (code - 1)) x y) := by
  have h96 := h.2.2.2.2.2.2.2.2.1.2.2
  obtain ⟨r1, r2, r3⟩ := h.1.2.2
  have one : (code ≤ 41 ∨ code = 48) → m_Model_values n i j a b (nI (code - 1)) x y = m_Model_values n i j a b (nI (code - 1)) x x := fun hq => vals_y (by omega)
  rcases Classical.em ((33 ≤ code ∧ code ≤ 39) ∨ code = 42) with c | c
  · rw [val_flat c]
    refine VR_ans h ?_
    rcases Classical.em (code = 42) with d | d
    · subst d
      rcases hu with hu | hu
      · omega
      · exact r_vflat h.2.1 ht hu (Or.inr (Or.inr ⟨rfl, h2 rfl⟩))
    · have hv : vRes code t u = vRes code t t := by
        rcases (by omega : code = 33 ∨ code = 34 ∨ code = 35 ∨ code = 36 ∨ code = 37 ∨ code = 38 ∨ code = 39) with rfl | rfl | rfl | rfl | rfl | rfl | rfl <;> rfl
      rw [one (by omega), hv]
      refine r_vflat h.2.1 ht ht ?_
      rcases Classical.em (code ≤ 36) with e | e
      · exact Or.inl (by omega)
      · exact Or.inr (Or.inl ⟨by omega, h1 (by omega)⟩)
  rcases Classical.em (code = 47) with d | d
  · subst d
    rcases hu with hu | hu
    · omega
    obtain ⟨b', v, e1, e2, e3⟩ := r_vmember (n := n) (i := i) (j := j) hn (rWo_B h) h.2.1 ht hu (h3 (by omega))
    exact VR_oB h e2 e1 e3
  rcases Classical.em ((code = 40 ∨ code = 41) ∧ tMem t = []) with d2 | d2
  · have ee : aValue code t u (nMade N) = .error 3 := by
      rcases d2.1 with rfl | rfl
      · show (if tMem t = [] then _ else _) = _
        rw [if_pos d2.2]
      · show (if tMem t = [] then _ else _) = _
        rw [if_pos d2.2]
    rw [ee]
    have hz := r_isL_eq ht (h1 (by omega))
    rw [d2.2] at hz
    rw [hz] at ht
    have es := r_size (n := n) (i := i) (j := j) ht
    refine VR_fail h ?_
    rcases d2.1 with rfl | rfl
    · unfold m_Model_values
      rw [show (40 - 1 : Nat) = 39 from rfl, ob1_s, if_neg (show ¬ nI 39 = (32 : Int32) by decide), if_neg (show ¬ nI 39 = (33 : Int32) by decide), if_neg (show ¬ nI 39 = (34 : Int32) by decide), if_neg (show ¬ nI 39 = (35 : Int32) by decide), if_neg (show ¬ nI 39 = (36 : Int32) by decide), if_neg (show ¬ nI 39 = (37 : Int32) by decide), if_neg (show ¬ nI 39 = (38 : Int32) by decide), if_pos (show nI 39 = (39 : Int32) by decide), es, ob0_s, if_pos (show nI ([] : List Tr).length = (0 : Int32) from rfl)]
      rfl
    · unfold m_Model_values
      rw [show (41 - 1 : Nat) = 40 from rfl, ob1_s, if_neg (show ¬ nI 40 = (32 : Int32) by decide), if_neg (show ¬ nI 40 = (33 : Int32) by decide), if_neg (show ¬ nI 40 = (34 : Int32) by decide), if_neg (show ¬ nI 40 = (35 : Int32) by decide), if_neg (show ¬ nI 40 = (36 : Int32) by decide), if_neg (show ¬ nI 40 = (37 : Int32) by decide), if_neg (show ¬ nI 40 = (38 : Int32) by decide), if_neg (show ¬ nI 40 = (39 : Int32) by decide), if_pos (show nI 40 = (40 : Int32) by decide), es, ob0_s, if_pos (show nI ([] : List Tr).length = (0 : Int32) from rfl)]
      rfl
  have el : aValue code t u (nMade N) = aList (nMade N) (vLst code t u) := by
    rcases (by omega : code = 40 ∨ code = 41 ∨ code = 43 ∨ code = 44 ∨ code = 45 ∨ code = 46 ∨ code = 48) with rfl | rfl | rfl | rfl | rfl | rfl | rfl
    · show (if tMem t = [] then _ else _) = _
      rw [if_neg (fun e => d2 ⟨Or.inl rfl, e⟩)]; rfl
    · show (if tMem t = [] then _ else _) = _
      rw [if_neg (fun e => d2 ⟨Or.inr rfl, e⟩)]; rfl
    · rfl
    · rfl
    · rfl
    · rfl
    · rfl
  rw [el]
  refine VR_list h hm ?_
  rcases Classical.em (code ≤ 41 ∨ code = 48) with f | f
  · have hv : vLst code t u = vLst code t t := by
      rcases (by omega : code = 40 ∨ code = 41 ∨ code = 48) with rfl | rfl | rfl <;> rfl
    rw [one f, hv]
    refine r_vlist hn h.1.1 (by omega) h96 hm ht ht (by omega) ?_
    rcases (by omega : (code = 40 ∨ code = 41) ∨ code = 48) with g | g
    · exact Or.inl ⟨g, h1 (by omega), fun e => d2 ⟨g, e⟩⟩
    · exact Or.inr (Or.inr (Or.inr (Or.inr ⟨g, h1 (by omega)⟩)))
  · rcases hu with hu | hu
    · exact absurd hu f
    refine r_vlist hn h.1.1 (by omega) h96 hm ht hu (by omega) ?_
    rcases (by omega : (code = 43 ∨ code = 44) ∨ code = 45 ∨ code = 46) with g | g | g
    · exact Or.inr (Or.inl ⟨g, h3 (by omega)⟩)
    · exact Or.inr (Or.inr (Or.inl g))
    · exact Or.inr (Or.inr (Or.inr (Or.inl g)))

