/-! what the reference shows -/
theorem sJ {α β γ δ ε : Type} {p : Prop} [Decidable p] {x1 : α} {x2 : β} {x3 : γ} {x4 : δ} {x y : ε} {q r : Option (α × β × γ × δ × ε)} (hq : q = some (x1, x2, x3, x4, x)) (h : r = some (x1, x2, x3, x4, y)) : (if p then q else r) = some (x1, x2, x3, x4, if p then x else y) := by
  split
  · exact hq
  · exact h
theorem min2_i {n m : Nat} (h : m < 9000000000000000000) : m_Math_min2 n (Int64.ofInt (m : Int)) 2000 = some (Int64.ofInt ((min m 2000 : Nat) : Int)) := by
  unfold m_Math_min2
  rw [show (2000 : Int64) = Int64.ofInt 2000 from rfl]
  rcases Nat.lt_or_ge 2000 m with q | q
  · rw [if_pos ((lg_gt (by omega) (by omega)).mpr (by omega)), show min m 2000 = 2000 by omega]
    rfl
  · rw [if_neg (fun e => by have := (lg_gt (by omega) (by omega)).mp e; omega), show min m 2000 = m by omega]
theorem l64_32 {m : Nat} : (Int64.ofInt (m : Int)).toInt32 = nI m := by
  rw [Int64.toInt32_ofInt, nI_ofInt]
theorem R_look {n : Nat} {i : Nat → Int32} {j : Nat → Int64} {a : Nat → Nat → Int32} {b : Nat → Nat → Int64} {cc : Nat} {w : AW} {x : Int32} (hcc : cc < 1000000) (h : WR i j a b cc w) : m_Model_look n i j a b x = some (upd i 0 0, j, a, b, aLook w x) := by
  obtain ⟨c, G0, tl, bk, tp, N, fk, fp⟩ := w
  obtain ⟨⟨B, ⟨⟨w1, w2, w8, ⟨w9, w10⟩, ⟨w11, w11', w11''⟩, w12, w14⟩, hR, ⟨w5, w6, w7⟩, ⟨y1, y2, y3, y4, y5, y6⟩, y7, y8⟩, hO, h1'', h1x⟩, h2, ⟨t1, t2, t3, t4⟩, ⟨f1, f2, f3⟩, h5⟩ := h
  have hk : ∀ q, q ≠ 0 → upd i 0 0 q = i q := fun q hq => upd_ne hq
  have hF : c.2.2.1.length = lvCalls c.2.2.2.1 := h2.1.2.2.1.2.2.2.2.1
  have hs4 : cSt c ≤ 4 := h2.1.2.1.1
  have e1 : (if nI (cSt c) = (1 : Int32) then some (upd i 0 0, j, a, b, (0 : Int32)) else some (upd i 0 0, j, a, b, i 94)) = some (upd i 0 0, j, a, b, nI (nErr c.2.1)) := by
    rcases Classical.em (cSt c = 1) with e | e
    · rw [if_pos (by rw [e]; rfl), h5 e]; rfl
    · rw [if_neg (show ¬ nI (cSt c) = (1 : Int32) from fun h9 => e ((nI_eq (b := 1) (by omega) (by decide)).mp h9)), (y7 e).1]
  unfold m_Model_look aLook
  dsimp only
  rw [ob1_s, hk 92 (by decide), hk 94 (by decide), hk 93 (by decide), hk 97 (by decide), hk 98 (by decide), hk 96 (by decide), hk 95 (by decide), hk 47 (by decide), hk 36 (by decide), hk 33 (by decide), hk 74 (by decide), hk 46 (by decide), hk 99 (by decide), y1, e1, y2, y3, y4, y5, y6, w7, w8.1, w9.1, w11'', w14, t1, w12.1, min2_i (by omega), ob0_s, l64_32, hF]
  exact sJ rfl (sJ rfl (sJ rfl (sJ rfl (sJ rfl (sJ rfl (sJ rfl (sJ rfl (sJ rfl (sJ rfl (sJ rfl (sJ rfl (sJ rfl (sJ rfl rfl)))))))))))))
theorem R_fault {n : Nat} {i : Nat → Int32} {j : Nat → Int64} {a : Nat → Nat → Int32} {b : Nat → Nat → Int64} {cc : Nat} {c : Cfg} {G0 : GS} {tl : Tr} {bk : Bool} {tp : Nat → Nat} {N fk fp : Nat} {x : Int32} (h : WR i j a b cc (c, G0, tl, bk, tp, N, fk, fp)) : m_Model_fault n i j a b x = some (upd i 0 0, j, a, b, aFaultW fk fp x) := by
  obtain ⟨⟨B, ⟨⟨w1, w2, w8, ⟨w9, w10⟩, ⟨w11, w11', w11''⟩, w12, w14⟩, hR, ⟨w5, w6, w7⟩, ⟨y1, y2, y3, y4, y5, y6⟩, y7, y8⟩, hO, h1'', h1x⟩, h2, ⟨t1, t2, t3, t4⟩, ⟨f1, f2, f3⟩, h5⟩ := h
  unfold m_Model_fault aFaultW
  rw [ob1_s, upd_ne (by decide), upd_ne (by decide), f1]
  rcases Classical.em (fk = 0) with e | e
  · rw [if_pos e, if_pos (by rw [e]; rfl)]
  · rw [if_neg e, if_neg (show ¬ nI fk = (0 : Int32) from fun h9 => e ((nI_eq (b := 0) (by omega) (by decide)).mp h9)), f3 e]
    exact sJ rfl (sJ rfl rfl)
theorem WR_tape {i : Nat → Int32} {j : Nat → Int64} {a : Nat → Nat → Int32} {b : Nat → Nat → Int64} {i' : Nat → Int32} {a' : Nat → Nat → Int32} {cc : Nat} {c : Cfg} {G0 : GS} {tl : Tr} {bk : Bool} {tp : Nat → Nat} {N fk fp : Nat} {tp' : Nat → Nat} {N' : Nat} (h : WR i j a b cc (c, G0, tl, bk, tp, N, fk, fp)) (hi : ∀ q, q ≠ 0 → q ≠ 74 → i' q = i q) (ha : ∀ q, q ≠ 73 → a' q = a q) (ht : rTp i' a' tp' N') : WR i' j a' b (cc + 1) (c, G0, tl, bk, tp', N', fk, fp) := by
  obtain ⟨⟨B, h1⟩, h2, _, ⟨f1, f2, f3⟩, h5⟩ := h
  have hu : rUp a b B a' b B := rUp_same ⟨ha 1 (by decide), ha 3 (by decide), ha 4 (by decide), ha 12 (by decide), ha 13 (by decide), ha 14 (by decide), rfl⟩ (rEz_B h1.1)
  exact ⟨⟨B, WRb_up h1 (by omega) hu (fun x _ => by rw [ha 7 (by decide)]) (fun _ _ => rfl) (fun q hq => hi q (fun e => by subst e; revert hq; decide) (fun e => by subst e; revert hq; decide)) ⟨rfl, rfl, rfl⟩ (fun q hq => ha q (fun e => by subst e; revert hq; decide)) (fun _ _ => rfl)⟩, h2, ht, ⟨(hi 75 (by decide) (by decide)).trans f1, f2, fun e => (hi 76 (by decide) (by decide)).trans (f3 e)⟩, h5⟩
theorem R_end0 {n : Nat} {i : Nat → Int32} {j : Nat → Int64} {a : Nat → Nat → Int32} {b : Nat → Nat → Int64} {cc : Nat} {c : Cfg} {G0 : GS} {tl : Tr} {bk : Bool} {tp : Nat → Nat} {N fk fp : Nat} {x : Int32} (h : WR i j a b cc (c, G0, tl, bk, tp, N, fk, fp)) (hx : x < 0 ∨ nI N < x) : m_Model_end n i j a b x = some (upd i 0 0, j, a, b, nI 0) := by
  obtain ⟨⟨B, ⟨⟨w1, w2, w8, ⟨w9, w10⟩, ⟨w11, w11', w11''⟩, w12, w14⟩, hR, ⟨w5, w6, w7⟩, ⟨y1, y2, y3, y4, y5, y6⟩, y7, y8⟩, hO, h1'', h1x⟩, h2, ⟨t1, t2, t3, t4⟩, ⟨f1, f2, f3⟩, h5⟩ := h
  unfold m_Model_end
  rw [ob1_s, upd_ne (by decide), t1]
  rcases Classical.em (x < 0) with e | e
  · rw [if_pos e]; rfl
  · rw [if_neg e]
    rcases hx with hx | hx
    · exact absurd hx e
    · rw [if_neg (fun h9 => by
        rw [Int32.le_iff_toInt_le] at h9
        rw [Int32.lt_iff_toInt_lt] at hx
        omega)]
      rfl
theorem R_end {n z : Nat} {i : Nat → Int32} {j : Nat → Int64} {a : Nat → Nat → Int32} {b : Nat → Nat → Int64} {cc : Nat} {c : Cfg} {G0 : GS} {tl : Tr} {bk : Bool} {tp : Nat → Nat} {N fk fp : Nat} (h : WR i j a b cc (c, G0, tl, bk, tp, N, fk, fp)) (hz : z ≤ N) : ∃ i', m_Model_end n i j a b (nI z) = some (i', j, a, b, nI 1) ∧ WR i' j a b (cc + 1) (c, G0, tl, bk, tp, z, fk, fp) := by
  have h0 := h
  obtain ⟨⟨B, ⟨⟨w1, w2, w8, ⟨w9, w10⟩, ⟨w11, w11', w11''⟩, w12, w14⟩, hR, ⟨w5, w6, w7⟩, ⟨y1, y2, y3, y4, y5, y6⟩, y7, y8⟩, hO, h1'', h1x⟩, h2, ⟨t1, t2, t3, t4⟩, ⟨f1, f2, f3⟩, h5⟩ := h
  unfold m_Model_end
  rw [ob1_s, upd_ne (by decide), t1, show (0 : Int32) = nI 0 from rfl, ilt_n (by omega), ile_p (by omega), ob1_s]
  refine ⟨_, rfl, WR_tape h0 (fun q q1 q2 => by rw [upd_ne q2, upd_ne q1]) (fun _ _ => rfl) ⟨upd_at, by omega, fun k hk => t3 k (by omega), t4⟩⟩
theorem R_out {n : Nat} {i : Nat → Int32} {j : Nat → Int64} {a : Nat → Nat → Int32} {b : Nat → Nat → Int64} {cc : Nat} {c : Cfg} {G0 : GS} {tl : Tr} {bk : Bool} {tp : Nat → Nat} {N fk fp : Nat} {x : Int32} (hcc : cc < 1000000) (h : WR i j a b cc (c, G0, tl, bk, tp, N, fk, fp)) : m_Model_out n i j a b x = some (upd i 0 0, j, a, b, aOutW c.1 x) := by
  obtain ⟨⟨B, ⟨⟨w1, w2, w8, ⟨w9, w10⟩, ⟨w11, w11', w11''⟩, w12, w14⟩, hR, ⟨w5, w6, w7⟩, ⟨y1, y2, y3, y4, y5, y6⟩, y7, y8⟩, hO, h1'', h1x⟩, h2, ⟨t1, t2, t3, t4⟩, ⟨f1, f2, f3⟩, h5⟩ := h
  unfold m_Model_out aOutW
  rw [ob1_s, w12.1, min2_i (by omega), ob0_s]
  rcases i32_cases x with ht | ⟨ht, z, hz, rfl⟩
  · rw [if_pos ht, if_pos ht]
  rw [if_neg ht, if_neg ht, cl_n hz, nI_ofInt z, i32_64 (by omega) (by omega)]
  rcases Nat.lt_or_ge z (min (gOut c.1).length 2000) with q | q
  · rw [if_pos ((lg_lt (by omega) (by omega)).mpr (by omega)), if_neg (by omega), List.getElem?_eq_getElem (by omega)]
    have e1 : Int64.ofInt ((gOut c.1).length : Int) - 1 - Int64.ofInt (z : Int) = Int64.ofInt (((gOut c.1).length - 1 - z : Nat) : Int) := by
      rw [show (1 : Int64) = Int64.ofInt 1 from rfl, ← Int64.ofInt_sub, ← Int64.ofInt_sub]
      congr 1
      omega
    rw [e1, l64_rem (by omega), ck_n (by omega), cl_n (by omega), w12.2.1 z (by omega) (by omega)]
  · rw [if_neg (fun e => by have := (lg_lt (by omega) (by omega)).mp e; omega)]
    rcases Nat.lt_or_ge z 2000 with q2 | q2
    · rw [if_neg (by omega), List.getElem?_eq_none (by omega)]
    · rw [if_pos q2]
theorem R_dot {n : Nat} {i : Nat → Int32} {j : Nat → Int64} {a : Nat → Nat → Int32} {b : Nat → Nat → Int64} {cc : Nat} {c : Cfg} {G0 : GS} {tl : Tr} {bk : Bool} {tp : Nat → Nat} {N fk fp : Nat} {x y : Int32} (h : WR i j a b cc (c, G0, tl, bk, tp, N, fk, fp)) : m_Model_dot n i j a b x y = some (upd i 0 0, j, a, b, aDotW c.1 x y) := by
  obtain ⟨⟨B, ⟨⟨w1, w2, w8, ⟨w9, w10⟩, ⟨w11, w11', w11''⟩, w12, w14⟩, hR, ⟨w5, w6, w7⟩, ⟨y1, y2, y3, y4, y5, y6⟩, y7, y8⟩, hO, h1'', h1x⟩, h2, ⟨t1, t2, t3, t4⟩, ⟨f1, f2, f3⟩, h5⟩ := h
  unfold m_Model_dot m_Model_dotAt aDotW
  rw [ob1_s]
  have hx1 := Int32.toInt_lt x
  have hx2 := Int32.le_toInt x
  have hy1 := Int32.toInt_lt y
  have hy2 := Int32.le_toInt y
  have l1 : (x < (-32 : Int32)) ↔ x.toInt < -32 := by rw [Int32.lt_iff_toInt_lt]; exact Iff.rfl
  have l2 : ((31 : Int32) < x) ↔ 31 < x.toInt := by rw [Int32.lt_iff_toInt_lt]; exact Iff.rfl
  have l3 : (y < (-32 : Int32)) ↔ y.toInt < -32 := by rw [Int32.lt_iff_toInt_lt]; exact Iff.rfl
  have l4 : (y ≤ (31 : Int32)) ↔ y.toInt ≤ 31 := by rw [Int32.le_iff_toInt_le]; exact Iff.rfl
  rcases Classical.em (x.toInt < -32) with h1 | h1
  · rw [if_pos (l1.mpr h1), if_neg (by omega), ob0_s]
  rw [if_neg (fun e => h1 (l1.mp e))]
  rcases Classical.em (31 < x.toInt) with h3 | h3
  · rw [if_pos (l2.mpr h3), if_neg (by omega), ob0_s]
  rw [if_neg (fun e => h3 (l2.mp e))]
  rcases Classical.em (y.toInt < -32) with h4 | h4
  · rw [if_pos (l3.mpr h4), if_neg (by omega), ob0_s]
  rw [if_neg (fun e => h4 (l3.mp e))]
  rcases Classical.em (y.toInt ≤ 31) with h6 | h6
  rotate_left
  · rw [if_neg (fun e => h6 (l4.mp e)), if_neg (by omega), ob0_s]
  rw [if_pos (l4.mpr h6), if_pos (by omega)]
  have e1 : (64 : Int32) * (y + 32) + x + 32 = nI ((y.toInt + 32) * 64 + x.toInt + 32).toNat := by
    have ex : x = Int32.ofInt x.toInt := (Int32.ofInt_toInt x).symm
    have ey : y = Int32.ofInt y.toInt := (Int32.ofInt_toInt y).symm
    generalize x.toInt = u at *
    generalize y.toInt = v at *
    subst ex ey
    rw [show (64 : Int32) = Int32.ofInt 64 from rfl, show (32 : Int32) = Int32.ofInt 32 from rfl, ← Int32.ofInt_add, ← Int32.ofInt_mul, ← Int32.ofInt_add, ← Int32.ofInt_add, nI_ofInt]
    congr 1
    omega
  rw [e1, ck_n (by omega), cl_n (by omega), ob0_s, w11' _ (by omega)]
theorem r_sum9 {n : Nat} {i : Nat → Int32} {j : Nat → Int64} {a : Nat → Nat → Int32} {b : Nat → Nat → Int64} {s0 : Int32} (f : Nat → Int32) (hf : ∀ x, x < 4096 → a 44 x = f x) : ∀ (m q k : Nat) (s : Int32), m < q → k + m = 4096 → m_Model_sum_b9 n q i j a b s (nI k) = m_Model_sum_b36 n n i j a b (aSumF f m k s) (nI 0) := by
  intro m
  induction m with
  | zero =>
    intro q k s hq hk
    obtain ⟨q, rfl⟩ : ∃ q', q = q' + 1 := ⟨q - 1, by omega⟩
    rw [m_Model_sum_b9, show (4096 : Int32) = nI 4096 from rfl, ile_p (by omega)]
    rfl
  | succ m ih =>
    intro q k s hq hk
    obtain ⟨q, rfl⟩ : ∃ q', q = q' + 1 := ⟨q - 1, by omega⟩
    rw [m_Model_sum_b9, show (4096 : Int32) = nI 4096 from rfl, ile_n (by omega), ck_n (by omega), ob1_s, ob1_s, cl_n (by omega), hf k (by omega), show nI k + (1 : Int32) = nI (k + 1) from nI_add k 1, ih q (k + 1) _ (by omega) (by omega)]
    rfl
theorem r_row {n : Nat} {i : Nat → Int32} {j : Nat → Int64} {a : Nat → Nat → Int32} {b : Nat → Nat → Int64} {k : Nat} (hk : k < 7) : m_Model_turtleRow n i j a b (nI k) = some (37 + k) := by
  unfold m_Model_turtleRow
  rcases (by omega : k = 0 ∨ k = 1 ∨ k = 2 ∨ k = 3 ∨ k = 4 ∨ k = 5 ∨ k = 6) with rfl | rfl | rfl | rfl | rfl | rfl | rfl <;> rfl
theorem cd_at {δ : Type} {k : Nat} {e : Option δ} (h : k < 7) : cd (37 + k) e = e := by
  rcases (by omega : k = 0 ∨ k = 1 ∨ k = 2 ∨ k = 3 ∨ k = 4 ∨ k = 5 ∨ k = 6) with rfl | rfl | rfl | rfl | rfl | rfl | rfl <;> rfl
theorem r_sum44 {n t : Nat} {i : Nat → Int32} {j : Nat → Int64} {a : Nat → Nat → Int32} {b : Nat → Nat → Int64} {rc : (Nat → Int32) → (Nat → Int64) → (Nat → Nat → Int32) → (Nat → Nat → Int64) → Int32 → Int32 → Option ((Nat → Int32) × (Nat → Int64) × (Nat → Nat → Int32) × (Nat → Nat → Int64) × Int32)} (f : Nat → Int32) (ht : t < 8) (hf : ∀ k, k < 7 → a (37 + k) t = f (7 * t + k)) : ∀ (m q k : Nat) (s : Int32), m < q → k + m = 7 → m_Model_sum_b44 n rc q i j a b s (nI t) (nI k) = rc i j a b (aSumF f m (7 * t + k) s) (nI (t + 1)) := by
  intro m
  induction m with
  | zero =>
    intro q k s hq hk
    obtain ⟨q, rfl⟩ : ∃ q', q = q' + 1 := ⟨q - 1, by omega⟩
    rw [m_Model_sum_b44, show (7 : Int32) = nI 7 from rfl, ile_p (by omega), ob1_s, show nI t + (1 : Int32) = nI (t + 1) from nI_add t 1]
    rfl
  | succ m ih =>
    intro q k s hq hk
    obtain ⟨q, rfl⟩ : ∃ q', q = q' + 1 := ⟨q - 1, by omega⟩
    rw [m_Model_sum_b44, show (7 : Int32) = nI 7 from rfl, ile_n (by omega), r_row (by omega), ob0_s, cd_at (by omega), ck_n (by omega), ob1_s, ob1_s, cl_n (by omega), hf k (by omega), show nI k + (1 : Int32) = nI (k + 1) from nI_add k 1, ih q (k + 1) _ (by omega) (by omega)]
    rfl
theorem aSumF_add (f : Nat → Int32) : ∀ (m p k : Nat) (s : Int32), aSumF f (m + p) k s = aSumF f p (k + m) (aSumF f m k s) := by
  intro m
  induction m with
  | zero => intro p k s; rw [Nat.zero_add]; rfl
  | succ m ih => intro p k s; rw [Nat.succ_add, aSumF, ih, aSumF, show k + 1 + m = k + (m + 1) by omega]
theorem r_sum36 {n : Nat} (hn : 8 ≤ n) {i : Nat → Int32} {j : Nat → Int64} {a : Nat → Nat → Int32} {b : Nat → Nat → Int64} (f : Nat → Int32) (hf : ∀ t k, t < 8 → k < 7 → a (37 + k) t = f (7 * t + k)) : ∀ (m q t : Nat) (s : Int32), m < q → t + m = 8 → m_Model_sum_b36 n q i j a b s (nI t) = some (i, j, a, b, aSumF f (7 * m) (7 * t) s) := by
  intro m
  induction m with
  | zero =>
    intro q t s hq ht
    obtain ⟨q, rfl⟩ : ∃ q', q = q' + 1 := ⟨q - 1, by omega⟩
    rw [m_Model_sum_b36, show (8 : Int32) = nI 8 from rfl, ile_p (by omega)]
    rfl
  | succ m ih =>
    intro q t s hq ht
    obtain ⟨q, rfl⟩ : ∃ q', q = q' + 1 := ⟨q - 1, by omega⟩
    rw [m_Model_sum_b36, show (8 : Int32) = nI 8 from rfl, ile_n (by omega), show (0 : Int32) = nI 0 from rfl, r_sum44 f (by omega) (fun k hk => hf t k (by omega) hk) 7 n 0 s (by omega) rfl, ih q (t + 1) _ (by omega) (by omega), show 7 * (m + 1) = 7 + 7 * m by omega, aSumF_add]
    rfl
theorem R_sum {n : Nat} (hn : 5000 ≤ n) {i : Nat → Int32} {j : Nat → Int64} {a : Nat → Nat → Int32} {b : Nat → Nat → Int64} {cc : Nat} {c : Cfg} {G0 : GS} {tl : Tr} {bk : Bool} {tp : Nat → Nat} {N fk fp : Nat} (h : WR i j a b cc (c, G0, tl, bk, tp, N, fk, fp)) : m_Model_sum n i j a b = some (upd i 0 0, j, a, b, aSumW c.1) := by
  obtain ⟨⟨B, ⟨⟨w1, w2, w8, ⟨w9, w10⟩, ⟨w11, w11', w11''⟩, w12, w14⟩, hR, ⟨w5, w6, w7⟩, ⟨y1, y2, y3, y4, y5, y6⟩, y7, y8⟩, hO, h1'', h1x⟩, h2, ⟨t1, t2, t3, t4⟩, ⟨f1, f2, f3⟩, h5⟩ := h
  unfold m_Model_sum
  rw [ob1_s, show (0 : Int32) = nI 0 from rfl, r_sum9 (s0 := 0) (gDots c.1) (fun x hx => w11' x hx) 4096 n 0 (nI 0) (by omega) rfl, r_sum36 (by omega) (gParts c.1) (fun t k h8 h7 => w11 t k h8 h7) 8 n 0 _ (by omega) rfl]
  rfl
theorem ts_at {f : Nat → Int32} {t k : Nat} (ht : t < 8) (hk : k < 7) : ts_part f (nI t) (nI k) = f (7 * t + k) := by
  unfold ts_part ts_exists
  rw [show (0 : Int32) = nI 0 from rfl, ilt_n (by omega), show (8 : Int32) = nI 8 from rfl, ile_n (by omega), if_neg (by decide), ilt_n (by omega), show (7 : Int32) = nI 7 from rfl, ile_n (by omega), show nI t * nI 7 + nI k = nI (t * 7 + k) from by rw [show nI t * nI 7 = nI (t * 7) from pk_mul t 7, nI_add], cl_n (by omega), Nat.mul_comm t 7]
theorem R_turtle {n : Nat} {i : Nat → Int32} {j : Nat → Int64} {a : Nat → Nat → Int32} {b : Nat → Nat → Int64} {cc : Nat} {c : Cfg} {G0 : GS} {tl : Tr} {bk : Bool} {tp : Nat → Nat} {N fk fp : Nat} {x y : Int32} (h : WR i j a b cc (c, G0, tl, bk, tp, N, fk, fp)) : m_Model_turtle n i j a b x y = some (upd i 0 0, j, a, b, m_World_turtle_r (gParts c.1) x y) := by
  obtain ⟨⟨B, ⟨⟨w1, w2, w8, ⟨w9, w10⟩, ⟨w11, w11', w11''⟩, w12, w14⟩, hR, ⟨w5, w6, w7⟩, ⟨y1, y2, y3, y4, y5, y6⟩, y7, y8⟩, hO, h1'', h1x⟩, h2, ⟨t1, t2, t3, t4⟩, ⟨f1, f2, f3⟩, h5⟩ := h
  unfold m_Model_turtle m_Model_isTurtle m_World_turtle_r
  rw [ob1_s]
  rcases i32_cases x with c1 | ⟨c1, t, ht, rfl⟩
  · rw [if_pos c1, ob0_s, if_pos rfl, if_pos (show ts_exists x = 0 by unfold ts_exists; rw [if_pos c1])]
  rw [if_neg c1]
  rcases Nat.lt_or_ge t 8 with q | q
  rotate_left
  · rw [show (8 : Int32) = nI 8 from rfl, ile_p (by omega), ob0_s, if_pos rfl, if_pos (show ts_exists (nI t) = 0 by unfold ts_exists; rw [if_neg c1, show (8 : Int32) = nI 8 from rfl, ile_p (by omega)])]
  rw [show (8 : Int32) = nI 8 from rfl, ile_n (by omega), ob0_s, if_neg (show ¬ (1 : Int32) = 0 from by decide), if_neg (show ¬ ts_exists (nI t) = 0 by unfold ts_exists; rw [if_neg c1, show (8 : Int32) = nI 8 from rfl, ile_n (by omega)]; decide), ck_n (by omega), ck_n (by omega), ck_n (by omega), cl_n (by omega), show a 41 t = gParts c.1 (7 * t + 4) from w11 t 4 q (by decide), show a 42 t = gParts c.1 (7 * t + 5) from w11 t 5 q (by decide), show a 43 t = gParts c.1 (7 * t + 6) from w11 t 6 q (by decide)]
  rcases i32_cases y with c2 | ⟨c2, u, hu, rfl⟩
  · rw [if_pos c2, if_neg (fun e => by subst e; exact absurd c2 (by decide)), if_neg (fun e => by subst e; exact absurd c2 (by decide)), if_neg (fun e => by subst e; exact absurd c2 (by decide))]
  rw [if_neg c2, show (4 : Int32) + nI u = nI (4 + u) from (nI_add 4 u)]
  rcases (by omega : u = 0 ∨ u = 1 ∨ u = 2 ∨ 3 ≤ u) with rfl | rfl | rfl | hu3
  · rw [if_pos (show nI 0 = (0 : Int32) from rfl), if_pos (show nI 0 ≤ (2 : Int32) from by decide), if_pos (show nI 0 = (0 : Int32) from rfl), ts_at q (by decide)]
  · rw [if_neg (show ¬ nI 1 = (0 : Int32) from by decide), if_pos (show nI 1 = (1 : Int32) from rfl), if_pos (show nI 1 ≤ (2 : Int32) from by decide), if_neg (show ¬ nI 1 = (0 : Int32) from by decide), ts_at q (by decide)]
  · rw [if_neg (show ¬ nI 2 = (0 : Int32) from by decide), if_neg (show ¬ nI 2 = (1 : Int32) from by decide), if_pos (show nI 2 = (2 : Int32) from rfl), if_pos (show nI 2 ≤ (2 : Int32) from by decide), if_neg (show ¬ nI 2 = (0 : Int32) from by decide), ts_at q (by decide)]
  · rw [show (0 : Int32) = nI 0 from rfl, show (1 : Int32) = nI 1 from rfl, show (2 : Int32) = nI 2 from rfl, ieq_n (by omega), ieq_n (by omega), ieq_n (by omega), ile_n (by omega)]

