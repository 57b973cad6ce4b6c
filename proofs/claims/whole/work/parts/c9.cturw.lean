/-! the turtles' words -/
theorem hd_6 : ∀ h, h < 12 → nI h - nI h / 6 * 6 = nI (h % 6) := by decide
theorem h_forward {n : Nat} {g : Nat → Nat} {i : Nat → Int32} {a : Nat → Nat → Int32} {T : Nat} {G : GS} {N : LN} {F : List Fr} {L : List Lv} {z : Int} (hn : 1000 ≤ n) (hc : CI g i a T G N F L) (hl9 : lvOk F L (nMade N)) (h44 : i 44 = nI 0) (h43 : i 43 = nI (lvVals L)) (hg : gOk G) (hz : -1000000000 ≤ z ∧ z ≤ 1000000000) : TK n g T (m_Turtles_forward n g i a (Int32.ofInt z)) (retG G N F L (rG G (aFwd G z))) := by
  have hc0 := hc
  obtain ⟨_, ⟨_, _, b3, b4, b5, _⟩, _⟩ := hc
  have ht8 := hg.1
  obtain ⟨p1, p2, p3, p4, p5, p6⟩ := hg.2.2.2.2.1 (gTold G) ht8
  have err3 : ∀ o, o = some (i, a, -2147483645) → TK n g T o (aFail 3 G N F L) := fun o ho => TK_er (e := 3) ho (by omega) hc0 hl9 h44 (by decide) (by decide)
  unfold m_Turtles_forward aFwd
  rcases Classical.em (z < -1000) with h1 | h1
  · rw [if_pos (show Int32.ofInt z < (-1000 : Int32) from (I_lt (y := -1000) (by omega) (by omega)).mpr h1), if_pos (Or.inl h1)]
    exact err3 _ rfl
  rw [if_neg (show ¬ Int32.ofInt z < (-1000 : Int32) from fun e9 => h1 ((I_lt (y := -1000) (by omega) (by omega)).mp e9))]
  rcases Classical.em (1000 < z) with h2 | h2
  · rw [if_pos (show (1000 : Int32) < Int32.ofInt z from (I_lt (x := 1000) (by omega) (by omega)).mpr h2), if_pos (Or.inr h2)]
    exact err3 _ rfl
  rw [if_neg (show ¬ (1000 : Int32) < Int32.ofInt z from fun e9 => h2 ((I_lt (x := 1000) (by omega) (by omega)).mp e9)), if_neg (by omega)]
  obtain ⟨h, hh⟩ : ∃ h : Nat, pI G (gTold G) 4 = (h : Int) := ⟨(pI G (gTold G) 4).toNat, by omega⟩
  have h12 : h < 12 := by omega
  have e4 : a 20 (7 * gTold G + 4) = Int32.ofInt (h : Int) := by rw [b3 _ (by omega), pI_of, hh]
  have ex : m_Turtles_exists n (nI (gTold G)) = some 1 := by
    unfold m_Turtles_exists
    rw [if_neg (show ¬ nI (gTold G) < (0 : Int32) from nI_nlt (b := 0) (by omega) (by omega)), if_neg (show ¬ (8 : Int32) ≤ nI (gTold G) from nI_ge (a := gTold G) (b := 8) (by omega) (by decide))]
  rw [b5, ex, ob0_s, if_neg (by decide), ob1_s, show nI (gTold G) * (7 : Int32) = nI (7 * gTold G) by rw [show (7 : Int32) = nI 7 from rfl, pk_mul, Nat.mul_comm], show nI (7 * gTold G) + (4 : Int32) = nI (7 * gTold G + 4) from nI_add _ 4, ck_n (by omega), cl_n (by omega), e4, h_floorMod (by omega), ob0_s, show ((h : Int) % 12) = (h : Int) by omega, ← nI_ofInt, ob1_s, hd_6 h h12]
  dsimp only
  rw [hh, Int.toNat_natCast]
  rcases Classical.em (h < 6) with h6 | h6
  · rw [if_neg (show ¬ (6 : Int32) ≤ nI h from nI_ge (a := h) (b := 6) h6 (by decide)), if_pos h6]
    unfold m_Turtles_forward_b67
    refine h_b72 (t := gTold G) (d := h % 6) (tm := z) hn hc0 hl9 h44 h43 hg rfl (by omega) (by omega) ?_ ?_ 4 0 n a rfl (by omega) (fun _ _ _ => rfl) (fun j hj => by omega)
    · intro j hj hf
      rw [if_pos (by rcases (by omega : j = 0 ∨ j = 1 ∨ j = 2 ∨ j = 3) with rfl | rfl | rfl | rfl <;> rw [hf] <;> simp)]
      rfl
    · intro hf
      rw [if_neg (by rw [hf 0 (by decide), hf 1 (by decide), hf 2 (by decide), hf 3 (by decide)]; decide)]
      rfl
  · rw [if_pos (show (6 : Int32) ≤ nI h from nI_le (a := 6) (by omega) (by omega)), if_neg h6, ← Int32.ofInt_neg]
    unfold m_Turtles_forward_b67
    refine h_b72 (t := gTold G) (d := h % 6) (tm := -z) hn hc0 hl9 h44 h43 hg rfl (by omega) (by omega) ?_ ?_ 4 0 n a rfl (by omega) (fun _ _ _ => rfl) (fun j hj => by omega)
    · intro j hj hf
      rw [if_pos (by rcases (by omega : j = 0 ∨ j = 1 ∨ j = 2 ∨ j = 3) with rfl | rfl | rfl | rfl <;> rw [hf] <;> simp)]
      rfl
    · intro hf
      rw [if_neg (by rw [hf 0 (by decide), hf 1 (by decide), hf 2 (by decide), hf 3 (by decide)]; decide)]
      rfl
theorem h_turnTo {n : Nat} {g : Nat → Nat} {i : Nat → Int32} {a : Nat → Nat → Int32} {T : Nat} {G : GS} {N : LN} {F : List Fr} {L : List Lv} {b z : Int} (hn : 1000 ≤ n) (hc : CI g i a T G N F L) (hl9 : lvOk F L (nMade N)) (h44 : i 44 = nI 0) (h43 : i 43 = nI (lvVals L)) (hg : gOk G) (hb : 0 ≤ b ∧ b ≤ 11) (hz : -1000000000 ≤ z ∧ z ≤ 1000000000) : TK n g T (m_Turtles_turnTo n g i a (Int32.ofInt b) (Int32.ofInt z)) (retG G N F L (rG G (aTurn G b z))) := by
  unfold m_Turtles_turnTo aTurn
  have ed : Int32.ofInt z / (30 : Int32) = Int32.ofInt (z.tdiv 30) := by
    rw [show (30 : Int32) = Int32.ofInt 30 from rfl, Int32.ofInt_tdiv (by show -2147483648 ≤ _; omega) (by show _ ≤ 2147483647; omega) (by decide) (by decide)]
  have em : Int32.ofInt z - Int32.ofInt z / (30 : Int32) * (30 : Int32) = Int32.ofInt (z.tmod 30) := by
    rw [ed, show (30 : Int32) = Int32.ofInt 30 from rfl, ← Int32.ofInt_mul, ← Int32.ofInt_sub, Int.tmod_def, Int.mul_comm]
  have hm := tmod_bd (y := 30) hz (by decide) (by decide)
  have hd := (l64_tdiv (y := 30) hz (by decide)).2
  rw [em, ed]
  rcases Classical.em (z.tmod 30 = 0) with h | h
  · rw [if_pos (show Int32.ofInt (z.tmod 30) = (0 : Int32) by rw [h]; rfl), if_neg (fun e => e h), ← Int32.ofInt_add, h_floorMod (by omega), ob0_s]
    obtain ⟨a', q1, q2⟩ := h_setPart (n := n) (k := 4) (v := (b + z.tdiv 30) % 12) hc hg.1 (by decide)
    rw [show (4 : Int32) = nI 4 from rfl, q1, ob_s]
    exact TK_no (i := i) (by omega) rfl q2 hl9 h44 h43 (fun _ _ => rfl)
  · rw [if_neg (show ¬ Int32.ofInt (z.tmod 30) = (0 : Int32) from fun e => h ((I_eq (y := 0) (by omega) (by omega)).mp e)), if_pos h]
    exact TK_er (e := 3) rfl (by omega) hc hl9 h44 (by decide) (by decide)
theorem h_turnBy {n : Nat} {g : Nat → Nat} {i : Nat → Int32} {a : Nat → Nat → Int32} {T : Nat} {G : GS} {N : LN} {F : List Fr} {L : List Lv} {z : Int} (hn : 1000 ≤ n) (hc : CI g i a T G N F L) (hl9 : lvOk F L (nMade N)) (h44 : i 44 = nI 0) (h43 : i 43 = nI (lvVals L)) (hg : gOk G) (hz : -1000000000 ≤ z ∧ z ≤ 1000000000) : TK n g T (m_Turtles_turnBy n g i a (Int32.ofInt z)) (retG G N F L (rG G (aTurn G (pI G (gTold G) 4) z))) := by
  obtain ⟨p1, p2, p3, p4, p5, p6⟩ := hg.2.2.2.2.1 (gTold G) hg.1
  unfold m_Turtles_turnBy
  rw [hc.2.1.2.2.2.2.1, show (4 : Int32) = nI 4 from rfl, h_part hc hg.1 (by decide), ob0_s]
  exact TK_pass (h_turnTo hn hc hl9 h44 h43 hg ⟨p2, p3⟩ hz)
theorem h_lower {n : Nat} {g : Nat → Nat} {i : Nat → Int32} {a : Nat → Nat → Int32} {T : Nat} {G : GS} {N : LN} {F : List Fr} {L : List Lv} {b : Bool} (hn : 1000 ≤ n) (hc : CI g i a T G N F L) (hl9 : lvOk F L (nMade N)) (h44 : i 44 = nI 0) (h43 : i 43 = nI (lvVals L)) (hg : gOk G) : TK n g T (m_Turtles_lower n g i a (b1 b)) (setP G 6 (if b then 1 else 0), N, F, L, 1, none, none) := by
  unfold m_Turtles_lower
  cases b with
  | false =>
    obtain ⟨a', q1, q2⟩ := h_setPart (n := n) (k := 6) (v := 0) hc hg.1 (by decide)
    rw [b1_f, if_pos (show nI 0 = (0 : Int32) from rfl), show (6 : Int32) = nI 6 from rfl, show (0 : Int32) = Int32.ofInt 0 from rfl, q1, ob_s]
    exact TK_no (i := i) (by omega) rfl q2 hl9 h44 h43 (fun _ _ => rfl)
  | true =>
    obtain ⟨a', q1, q2⟩ := h_setPart (n := n) (k := 6) (v := 1) hc hg.1 (by decide)
    rw [b1_t, if_neg (show ¬ nI 1 = (0 : Int32) by decide), show (6 : Int32) = nI 6 from rfl, show (1 : Int32) = Int32.ofInt 1 from rfl, q1, ob_s]
    exact TK_no (i := i) (by omega) rfl q2 hl9 h44 h43 (fun _ _ => rfl)
theorem h_exists {n : Nat} {x : Int} (hx : -1000000000 ≤ x ∧ x ≤ 1000000000) : m_Turtles_exists n (Int32.ofInt x) = some (if x < 0 ∨ 7 < x then 0 else 1) := by
  unfold m_Turtles_exists
  rcases Classical.em (x < 0) with h | h
  · rw [if_pos (show Int32.ofInt x < (0 : Int32) from (I_lt (y := 0) (by omega) (by omega)).mpr h), if_pos (Or.inl h)]
  · rw [if_neg (show ¬ Int32.ofInt x < (0 : Int32) from fun e => h ((I_lt (y := 0) (by omega) (by omega)).mp e))]
    rcases Classical.em (7 < x) with h2 | h2
    · rw [if_pos (show (8 : Int32) ≤ Int32.ofInt x from (I_le (x := 8) (by omega) (by omega)).mpr (by omega)), if_pos (Or.inr h2)]
    · rw [if_neg (show ¬ (8 : Int32) ≤ Int32.ofInt x from fun e => by have := (I_le (x := 8) (by omega) (by omega)).mp e; omega), if_neg (by omega)]
theorem h_takePen {n : Nat} {g : Nat → Nat} {i : Nat → Int32} {a : Nat → Nat → Int32} {T : Nat} {G : GS} {N : LN} {F : List Fr} {L : List Lv} {x : Int} (hn : 1000 ≤ n) (hc : CI g i a T G N F L) (hl9 : lvOk F L (nMade N)) (h44 : i 44 = nI 0) (h43 : i 43 = nI (lvVals L)) (hg : gOk G) (hx : -1000000000 ≤ x ∧ x ≤ 1000000000) : TK n g T (m_Turtles_takePen n g i a (Int32.ofInt x)) (retG G N F L (if x < 0 ∨ 7 < x then .error 3 else .ok (setP G 5 x, none))) := by
  unfold m_Turtles_takePen
  have err3 : ∀ o, o = some (i, a, -2147483645) → TK n g T o (aFail 3 G N F L) := fun o ho => TK_er (e := 3) ho (by omega) hc hl9 h44 (by decide) (by decide)
  rcases Classical.em (x < 0) with h | h
  · rw [if_pos (show Int32.ofInt x < (0 : Int32) from (I_lt (y := 0) (by omega) (by omega)).mpr h), if_pos (Or.inl h)]
    exact err3 _ rfl
  · rw [if_neg (show ¬ Int32.ofInt x < (0 : Int32) from fun e => h ((I_lt (y := 0) (by omega) (by omega)).mp e))]
    rcases Classical.em (7 < x) with h2 | h2
    · rw [if_neg (show ¬ Int32.ofInt x ≤ (7 : Int32) from fun e => by have := (I_le (y := 7) (by omega) (by omega)).mp e; omega), if_pos (Or.inr h2)]
      exact err3 _ rfl
    · obtain ⟨a', q1, q2⟩ := h_setPart (n := n) (k := 5) (v := x) hc hg.1 (by decide)
      rw [if_pos (show Int32.ofInt x ≤ (7 : Int32) from (I_le (y := 7) (by omega) (by omega)).mpr (by omega)), if_neg (by omega), show (5 : Int32) = nI 5 from rfl, q1, ob_s]
      exact TK_no (i := i) (by omega) rfl q2 hl9 h44 h43 (fun _ _ => rfl)
theorem h_put4 {n : Nat} {g : Nat → Nat} {i : Nat → Int32} {a : Nat → Nat → Int32} {T : Nat} {G : GS} {N : LN} {F : List Fr} {L : List Lv} {x y : Int} (hc : CI g i a T G N F L) (hg : gTold G < 8) : ∃ a', ob (m_Turtles_setPart n g i a (0 : Int32) (2 * Int32.ofInt x)) (fun i_6 a_7 r_8 => ob (m_Turtles_setPart n g i_6 a_7 (1 : Int32) (0 : Int32)) (fun i_10 a_11 r_12 => ob (m_Turtles_setPart n g i_10 a_11 (2 : Int32) (2 * Int32.ofInt y)) (fun i_14 a_15 r_16 => ob (m_Turtles_setPart n g i_14 a_15 (3 : Int32) (0 : Int32)) (fun i_18 a_19 r_20 => some (i_18, a_19, (-2147483648 : Int32)))))) = some (i, a', -nI 2147483648) ∧ CI g i a' T (set4 G (fun k => if k = 0 then 2 * x else if k = 2 then 2 * y else 0)) N F L := by
  obtain ⟨a1, q1, q2⟩ := h_setPart (n := n) (k := 0) (v := 2 * x) hc hg (by decide)
  obtain ⟨a2, q3, q4⟩ := h_setPart (n := n) (k := 1) (v := 0) q2 hg (by decide)
  obtain ⟨a3, q5, q6⟩ := h_setPart (n := n) (k := 2) (v := 2 * y) q4 hg (by decide)
  obtain ⟨a4, q7, q8⟩ := h_setPart (n := n) (k := 3) (v := 0) q6 hg (by decide)
  refine ⟨a4, ?_, q8⟩
  rw [show (2 : Int32) * Int32.ofInt x = Int32.ofInt (2 * x) by rw [Int32.ofInt_mul]; rfl, show (2 : Int32) * Int32.ofInt y = Int32.ofInt (2 * y) by rw [Int32.ofInt_mul]; rfl, show m_Turtles_setPart n g i a (0 : Int32) (Int32.ofInt (2 * x)) = some (i, a1, nI 0) from q1, ob_s, show m_Turtles_setPart n g i a1 (1 : Int32) (0 : Int32) = some (i, a2, nI 0) from q3, ob_s, show m_Turtles_setPart n g i a2 (2 : Int32) (Int32.ofInt (2 * y)) = some (i, a3, nI 0) from q5, ob_s, show m_Turtles_setPart n g i a3 (3 : Int32) (0 : Int32) = some (i, a4, nI 0) from q7, ob_s]
  rfl
theorem h_putAt {n : Nat} {g : Nat → Nat} {i : Nat → Int32} {a : Nat → Nat → Int32} {T : Nat} {G : GS} {N : LN} {F : List Fr} {L : List Lv} {x y : Int} (hn : 1000 ≤ n) (hc : CI g i a T G N F L) (hl9 : lvOk F L (nMade N)) (h44 : i 44 = nI 0) (h43 : i 43 = nI (lvVals L)) (hg : gOk G) (hx : -1000000000 ≤ x ∧ x ≤ 1000000000) (hy : -1000000000 ≤ y ∧ y ≤ 1000000000) : TK n g T (m_Turtles_putAt n g i a (Int32.ofInt x) (Int32.ofInt y)) (retG G N F L (if x < -30000 ∨ 30000 < x ∨ y < -30000 ∨ 30000 < y then .error 3 else .ok (set4 G (fun k => if k = 0 then 2 * x else if k = 2 then 2 * y else 0), none))) := by
  unfold m_Turtles_putAt
  have err3 : ∀ o, o = some (i, a, -2147483645) → TK n g T o (aFail 3 G N F L) := fun o ho => TK_er (e := 3) ho (by omega) hc hl9 h44 (by decide) (by decide)
  rcases Classical.em (x < -30000) with h | h
  · rw [if_pos (show Int32.ofInt x < (-30000 : Int32) from (I_lt (y := -30000) (by omega) (by omega)).mpr h), if_pos (Or.inl h)]
    exact err3 _ rfl
  rw [if_neg (show ¬ Int32.ofInt x < (-30000 : Int32) from fun e => h ((I_lt (y := -30000) (by omega) (by omega)).mp e))]
  rcases Classical.em (30000 < x) with h2 | h2
  · rw [if_pos (show (30000 : Int32) < Int32.ofInt x from (I_lt (x := 30000) (by omega) (by omega)).mpr h2), if_pos (Or.inr (Or.inl h2))]
    exact err3 _ rfl
  rw [if_neg (show ¬ (30000 : Int32) < Int32.ofInt x from fun e => h2 ((I_lt (x := 30000) (by omega) (by omega)).mp e))]
  rcases Classical.em (y < -30000) with h3 | h3
  · rw [if_pos (show Int32.ofInt y < (-30000 : Int32) from (I_lt (y := -30000) (by omega) (by omega)).mpr h3), if_pos (Or.inr (Or.inr (Or.inl h3)))]
    exact err3 _ rfl
  rw [if_neg (show ¬ Int32.ofInt y < (-30000 : Int32) from fun e => h3 ((I_lt (y := -30000) (by omega) (by omega)).mp e))]
  rcases Classical.em (30000 < y) with h4 | h4
  · rw [if_neg (show ¬ Int32.ofInt y ≤ (30000 : Int32) from fun e => by have := (I_le (y := 30000) (by omega) (by omega)).mp e; omega), if_pos (Or.inr (Or.inr (Or.inr h4)))]
    exact err3 _ rfl
  rw [if_pos (show Int32.ofInt y ≤ (30000 : Int32) from (I_le (y := 30000) (by omega) (by omega)).mpr (by omega)), if_neg (by omega)]
  obtain ⟨a', q1, q2⟩ := h_put4 (n := n) (x := x) (y := y) hc hg.1
  rw [q1]
  exact TK_no (i := i) (by omega) rfl q2 hl9 h44 h43 (fun _ _ => rfl)
theorem h_goHome {n : Nat} {g : Nat → Nat} {i : Nat → Int32} {a : Nat → Nat → Int32} {T : Nat} {G : GS} {N : LN} {F : List Fr} {L : List Lv} (hn : 1000 ≤ n) (hc : CI g i a T G N F L) (hl9 : lvOk F L (nMade N)) (h44 : i 44 = nI 0) (h43 : i 43 = nI (lvVals L)) (hg : gOk G) : TK n g T (m_Turtles_goHome n g i a) (set4 (setP G 4 0) (fun _ => 0), N, F, L, 1, none, none) := by
  unfold m_Turtles_goHome
  obtain ⟨a1, q1, q2⟩ := h_setPart (n := n) (k := 4) (v := 0) hc hg.1 (by decide)
  obtain ⟨a2, q3, q4⟩ := h_put4 (n := n) (x := 0) (y := 0) q2 hg.1
  have ef : (fun k : Nat => if k = 0 then 2 * (0 : Int) else if k = 2 then 2 * 0 else 0) = fun _ => 0 := by
    funext k
    split
    · rfl
    · split <;> rfl
  rw [ef] at q4
  have e0 : m_Turtles_putAt n g i a1 (0 : Int32) (0 : Int32) = some (i, a2, -nI 2147483648) := by
    unfold m_Turtles_putAt
    rw [if_neg (by decide), if_neg (by decide), if_neg (by decide), if_pos (by decide)]
    exact q3
  rw [show m_Turtles_setPart n g i a (4 : Int32) (0 : Int32) = some (i, a1, nI 0) from q1, ob_s, e0, ob_s]
  exact TK_no (i := i) (by omega) rfl q4 hl9 h44 h43 (fun _ _ => rfl)
theorem js_fill_at (v : Int32) : ∀ (n p : Nat) (f : Nat → Int32) (k : Nat), js_fill v p n f k = if p ≤ k ∧ k < p + n then v else f k := by
  intro n
  induction n with
  | zero => intro p f k; rw [if_neg (by omega)]; rfl
  | succ n ih =>
    intro p f k
    rw [js_fill, ih]
    unfold upd
    rcases Classical.em (p + 1 ≤ k ∧ k < p + 1 + n) with h | h
    · rw [if_pos h, if_pos (by omega)]
    · rw [if_neg h]
      rcases Classical.em (k = p) with h2 | h2
      · rw [if_pos h2, if_pos (by omega)]
      · rw [if_neg h2, if_neg (by omega)]
theorem h_wipe {n : Nat} {g : Nat → Nat} {i : Nat → Int32} {a : Nat → Nat → Int32} {T : Nat} {G : GS} {N : LN} {F : List Fr} {L : List Lv} (hn : 1000 ≤ n) (hc : CI g i a T G N F L) (hl9 : lvOk F L (nMade N)) (h44 : i 44 = nI 0) (h43 : i 43 = nI (lvVals L)) (hg : gOk G) : TK n g T (m_Turtles_wipe n g i a) (gSetDots G (fun _ => 0), N, F, L, 1, none, none) := by
  have hc0 := hc
  obtain ⟨_, ⟨_, _, b3, b4, b5, _⟩, _⟩ := hc
  unfold m_Turtles_wipe
  rw [ob1_s]
  refine TK_no (i := i) (by omega) rfl ?_ hl9 h44 h43 (fun _ _ => rfl)
  refine CI_tur hc0 (fun q _ h2 _ _ => updA_ne h2) (fun _ _ => rfl) b3 ?_ b5 rfl rfl rfl rfl rfl
  intro k hk
  rw [updA_at, js_fill_at, if_pos (by omega)]
  rfl
theorem h_mean {n : Nat} {g : Nat → Nat} {i : Nat → Int32} {a : Nat → Nat → Int32} {T : Nat} {G : GS} {N : LN} {F : List Fr} {L : List Lv} {x : Int} (hn : 1000 ≤ n) (hc : CI g i a T G N F L) (hl9 : lvOk F L (nMade N)) (h44 : i 44 = nI 0) (h43 : i 43 = nI (lvVals L)) (hg : gOk G) (hx : -1000000000 ≤ x ∧ x ≤ 1000000000) : TK n g T (m_Turtles_mean n g i a (Int32.ofInt x)) (retG G N F L (if x < 0 ∨ 7 < x then .error 3 else .ok (gSetTold G x.toNat, none))) := by
  have hc0 := hc
  obtain ⟨_, ⟨_, _, b3, b4, b5, _⟩, _⟩ := hc
  unfold m_Turtles_mean
  rw [h_exists hx, ob0_s]
  rcases Classical.em (x < 0 ∨ 7 < x) with h | h
  · rw [if_pos h, if_pos h, if_pos rfl]
    exact TK_er (e := 3) rfl (by omega) hc0 hl9 h44 (by decide) (by decide)
  · rw [if_neg h, if_neg h, if_neg (by decide), ob1_s]
    refine TK_no (i := i) (by omega) rfl ?_ hl9 h44 h43 (fun q hq => upd_ne hq)
    refine CI_tur hc0 (fun _ _ _ _ _ => rfl) (fun q hq => upd_ne hq) b3 b4 ?_ rfl rfl rfl rfl rfl
    rw [upd_at]
    show Int32.ofInt x = nI x.toNat
    rw [nI_ofInt, Int.toNat_of_nonneg (by omega)]
theorem h_floorOf {n : Nat} {g : Nat → Nat} {i : Nat → Int32} {a : Nat → Nat → Int32} {T : Nat} {G : GS} {N : LN} {F : List Fr} {L : List Lv} {k : Nat} (hc : CI g i a T G N F L) (hg : gOk G) (hk : k < 2) : m_Turtles_floorOf n g i a (nI k) = some (Int32.ofInt (flH (pI G (gTold G) (2 * k)) (pI G (gTold G) (2 * k + 1)))) := by
  obtain ⟨p1, _⟩ := hg.2.2.2.2.1 (gTold G) hg.1
  have h1 := p1 (2 * k) (by omega)
  have h2 := p1 (2 * k + 1) (by omega)
  unfold m_Turtles_floorOf
  rw [hc.2.1.2.2.2.2.1, show (2 : Int32) * nI k = nI (2 * k) from pk_mul 2 k, show nI (2 * k) + (1 : Int32) = nI (2 * k + 1) from nI_add _ 1, h_part hc hg.1 (by omega), ob0_s, h_part hc hg.1 (by omega), ob0_s, i32_64 (by omega) (by omega), i32_64 (by omega) (by omega), h_half (by omega) (by omega), ob0_s, Int64.toInt32_ofInt]
theorem h_onScreen {n : Nat} {x y : Int} (hx : -1000000000 ≤ x ∧ x ≤ 1000000000) (hy : -1000000000 ≤ y ∧ y ≤ 1000000000) : m_Turtles_onScreen n (Int64.ofInt x) (Int64.ofInt y) = some (if -32 ≤ x ∧ x < 32 ∧ -32 ≤ y ∧ y < 32 then 1 else 0) := by
  unfold m_Turtles_onScreen
  rw [show (-32 : Int64) = Int64.ofInt (-32) from by decide, show (32 : Int64) = Int64.ofInt 32 from rfl]
  rcases Classical.em (x < -32) with h1 | h1
  · rw [if_pos ((lg_lt (by omega) (by omega)).mpr h1), if_neg (by omega)]
  rw [if_neg (fun e => h1 ((lg_lt (by omega) (by omega)).mp e))]
  rcases Classical.em (32 ≤ x) with h2 | h2
  · rw [if_pos ((lg_ge (by omega) (by omega)).mpr h2), if_neg (by omega)]
  rw [if_neg (fun e => h2 ((lg_ge (by omega) (by omega)).mp e))]
  rcases Classical.em (y < -32) with h3 | h3
  · rw [if_pos ((lg_lt (by omega) (by omega)).mpr h3), if_neg (by omega)]
  rw [if_neg (fun e => h3 ((lg_lt (by omega) (by omega)).mp e))]
  rcases Classical.em (32 ≤ y) with h4 | h4
  · rw [if_pos ((lg_ge (by omega) (by omega)).mpr h4), if_neg (by omega)]
  rw [if_neg (fun e => h4 ((lg_ge (by omega) (by omega)).mp e)), if_pos (by omega)]
theorem h_colourBelow {n : Nat} {g : Nat → Nat} {i : Nat → Int32} {a : Nat → Nat → Int32} {T : Nat} {G : GS} {N : LN} {F : List Fr} {L : List Lv} (hc : CI g i a T G N F L) (hg : gOk G) : m_Turtles_colourBelow n g i a = some (Int32.ofInt (aBelow G)) ∧ 0 ≤ aBelow G ∧ aBelow G ≤ 7 := by
  have hc0 := hc
  obtain ⟨_, ⟨_, _, b3, b4, b5, _⟩, _⟩ := hc
  obtain ⟨p1, _⟩ := hg.2.2.2.2.1 (gTold G) hg.1
  have h0 := p1 0 (by decide)
  have h1 := p1 1 (by decide)
  have h2 := p1 2 (by decide)
  have h3 := p1 3 (by decide)
  have add1 : ∀ x : Int, Int32.ofInt x + (1 : Int32) = Int32.ofInt (x + 1) := fun x => by rw [Int32.ofInt_add]; rfl
  have f1 := flH_b (p := pI G (gTold G) 0 + 1) (q := pI G (gTold G) 1) (M := 1000001) (by omega) (by omega) (by decide)
  have f2 := flH_b (p := pI G (gTold G) 2 + 1) (q := pI G (gTold G) 3) (M := 1000001) (by omega) (by omega) (by decide)
  unfold m_Turtles_colourBelow aBelow
  dsimp only
  rw [b5, show m_Turtles_part n g i a (nI (gTold G)) (0 : Int32) = _ from h_part (k := 0) hc0 hg.1 (by decide), ob0_s, show m_Turtles_part n g i a (nI (gTold G)) (1 : Int32) = _ from h_part (k := 1) hc0 hg.1 (by decide), ob0_s, add1, i32_64 (by omega) (by omega), i32_64 (by omega) (by omega), h_half (by omega) (by omega), ob0_s, show m_Turtles_part n g i a (nI (gTold G)) (2 : Int32) = _ from h_part (k := 2) hc0 hg.1 (by decide), ob0_s, show m_Turtles_part n g i a (nI (gTold G)) (3 : Int32) = _ from h_part (k := 3) hc0 hg.1 (by decide), ob0_s, add1, i32_64 (by omega) (by omega), i32_64 (by omega) (by omega), h_half (by omega) (by omega), ob0_s, h_onScreen (by omega) (by omega), ob0_s]
  generalize flH (pI G (gTold G) 0 + 1) (pI G (gTold G) 1) = x at *
  generalize flH (pI G (gTold G) 2 + 1) (pI G (gTold G) 3) = y at *
  rcases Classical.em (-32 ≤ x ∧ x < 32 ∧ -32 ≤ y ∧ y < 32) with h | h
  · have hk : ((y + 32) * 64 + x + 32).toNat < 4096 := by omega
    rw [if_pos h, if_pos h, if_neg (by decide), Int64.toInt32_ofInt, Int64.toInt32_ofInt, h_dotAt (by omega) (by omega), ob0_s, ck_n (by omega), cl_n (by omega), b4 _ hk, Int32.ofInt_toInt]
    exact ⟨rfl, hg.2.2.2.2.2 _ hk⟩
  · rw [if_neg h, if_neg h, if_pos rfl]
    exact ⟨rfl, by decide, by decide⟩
theorem h_onePlace {n : Nat} {g : Nat → Nat} {i : Nat → Int32} {a : Nat → Nat → Int32} {T : Nat} {G : GS} {N : LN} {F : List Fr} {L : List Lv} {x y : Nat} (hc : CI g i a T G N F L) (hg : gOk G) (hx : x < 8) (hy : y < 8) : ∀ (m k f : Nat), k + m = 4 → m < f → (∀ j, j < k → pI G x j = pI G y j) → m_Turtles_atOnePlace_b2 n g i a f (nI x) (nI y) (nI k) = some (b1 (decide (pI G x 0 = pI G y 0 ∧ pI G x 1 = pI G y 1 ∧ pI G x 2 = pI G y 2 ∧ pI G x 3 = pI G y 3))) := by
  obtain ⟨p1, _⟩ := hg.2.2.2.2.1 x hx
  obtain ⟨r1, _⟩ := hg.2.2.2.2.1 y hy
  intro m
  induction m with
  | zero =>
    intro k f hk hf hj
    obtain rfl : k = 4 := by omega
    match f, hf with
    | f + 1, _ =>
      rw [m_Turtles_atOnePlace_b2, if_pos (show (4 : Int32) ≤ nI 4 by decide), decide_eq_true ⟨hj 0 (by decide), hj 1 (by decide), hj 2 (by decide), hj 3 (by decide)⟩]
      rfl
  | succ m ih =>
    intro k f hk hf hj
    match f, hf with
    | f + 1, hf =>
      have hp := p1 k (by omega)
      have hr := r1 k (by omega)
      rw [m_Turtles_atOnePlace_b2, if_neg (show ¬ (4 : Int32) ≤ nI k from nI_ge (a := k) (b := 4) (by omega) (by decide)), h_part hc hx (by omega), ob0_s, h_part hc hy (by omega), ob0_s]
      rcases Classical.em (pI G x k = pI G y k) with h | h
      · rw [if_pos (by rw [h]), ob1_s, show nI k + (1 : Int32) = nI (k + 1) from nI_add k 1]
        refine ih (k + 1) f (by omega) (by omega) ?_
        intro j hj9
        rcases Classical.em (j = k) with e | e
        · rw [e]; exact h
        · exact hj j (by omega)
      · rw [if_neg (fun e => h ((I_eq (by omega) (by omega)).mp e)), decide_eq_false]
        · rfl
        · rintro ⟨t0, t1, t2, t3⟩
          rcases (by omega : k = 0 ∨ k = 1 ∨ k = 2 ∨ k = 3) with rfl | rfl | rfl | rfl
          · exact h t0
          · exact h t1
          · exact h t2
          · exact h t3

theorem h_turtleWord {n : Nat} {g : Nat → Nat} {i : Nat → Int32} {a : Nat → Nat → Int32} {T : Nat} {G : GS} {N : LN} {F : List Fr} {L : List Lv} {vs : List Tr} {code : Nat} {v u : Tr} (hn : 1000 ≤ n) (h : INP g i a T G N F L vs) (h1 : 1 ≤ code) (h2 : code ≤ 19) (hv : vs.getD 0 .nil = v) (hu : vs.getD 1 .nil = u) (hl : vs.length = (aKind code).length) (hf : aFits (aKind code) vs = true) : TK n g T (m_Deeds_turtleWord n g i a (nI code)) (retG G N F L (aTurtle code (tNum v) (tNum u) G)) := by
  obtain ⟨x0, q1, _⟩ := h_input (n := n) (k := 0) h (by decide)
  obtain ⟨y0, q3, _⟩ := h_input (n := n) (k := 1) h (by decide)
  have hI := h
  obtain ⟨hc, hl9, hg, hNn, h44, h43, h46, hroom, hvs⟩ := h
  obtain ⟨p1, p2, p3, p4, p5, p6⟩ := hg.2.2.2.2.1 (gTold G) hg.1
  have in0 : (aKind code)[0]? = some 110 → x0 >>> ((1 : Int32) &&& 31) = Int32.ofInt (tNum v) ∧ -1000000000 ≤ tNum v ∧ tNum v ≤ 1000000000 := by
    intro hc9
    obtain ⟨x, s1, s2, s3, _⟩ := h_in (n := n) hI hl hf hv hc9 (by decide)
    rw [q1] at s1
    cases s1
    obtain ⟨_, w2, w3, w4⟩ := isN_num s2 s3
    exact ⟨by rw [w4]; exact hN_32 w2 w3, w2, w3⟩
  have in1 : (aKind code)[1]? = some 110 → y0 >>> ((1 : Int32) &&& 31) = Int32.ofInt (tNum u) ∧ -1000000000 ≤ tNum u ∧ tNum u ≤ 1000000000 := by
    intro hc9
    obtain ⟨x, s1, s2, s3, _⟩ := h_in (n := n) hI hl hf hu hc9 (by decide)
    rw [q3] at s1
    cases s1
    obtain ⟨_, w2, w3, w4⟩ := isN_num s2 s3
    exact ⟨by rw [w4]; exact hN_32 w2 w3, w2, w3⟩
  have num : ∀ (z : Int) (o : Option ((Nat → Int32) × (Nat → Nat → Int32) × Int32)), -1000000000 ≤ z → z ≤ 1000000000 → o = some (i, a, hN z) → TK n g T o (G, N, F, L, 1, some (tN z), none) := fun z o h1 h2 ho => TK_gv (r := .ok (some (tN z))) ho (by omega) hc hl9 h44 h43 (cV_num h1 h2) trivial
  unfold m_Deeds_turtleWord
  rw [show m_Waiting_input n g i a (0 : Int32) = some x0 from q1, ob0_s, ob1_s, show m_Waiting_input n g i a (1 : Int32) = some y0 from q3, ob0_s, ob1_s]
  rcases (by omega : code = 1 ∨ code = 2 ∨ code = 3 ∨ code = 4 ∨ code = 5 ∨ code = 6 ∨ code = 7 ∨ code = 8 ∨ code = 9 ∨ code = 10 ∨ code = 11 ∨ code = 12 ∨ code = 13 ∨ code = 14 ∨ code = 15 ∨ code = 16 ∨ code = 17 ∨ code = 18 ∨ code = 19) with rfl | rfl | rfl | rfl | rfl | rfl | rfl | rfl | rfl | rfl | rfl | rfl | rfl | rfl | rfl | rfl | rfl | rfl | rfl
  · obtain ⟨ex, hx⟩ := in0 rfl
    rw [if_pos (show nI 1 = (1 : Int32) from rfl), ex]
    show TK n g T _ (retG G N F L (aTurtle 1 (tNum v) (tNum u) G))
    unfold aTurtle
    simp only [Nat.reduceEqDiff, if_true, if_false]
    exact TK_pass (h_forward hn hc hl9 h44 h43 hg hx)
  · obtain ⟨ex, hx⟩ := in0 rfl
    rw [if_neg (show ¬ nI 2 = (1 : Int32) by decide), if_pos (show nI 2 = (2 : Int32) from rfl), ex, ← Int32.ofInt_neg]
    show TK n g T _ (retG G N F L (aTurtle 2 (tNum v) (tNum u) G))
    unfold aTurtle
    simp only [Nat.reduceEqDiff, if_true, if_false]
    exact TK_pass (h_forward hn hc hl9 h44 h43 hg (by omega))
  · obtain ⟨ex, hx⟩ := in0 rfl
    rw [if_neg (show ¬ nI 3 = (1 : Int32) by decide), if_neg (show ¬ nI 3 = (2 : Int32) by decide), if_pos (show nI 3 = (3 : Int32) from rfl), ex]
    show TK n g T _ (retG G N F L (aTurtle 3 (tNum v) (tNum u) G))
    unfold aTurtle
    simp only [Nat.reduceEqDiff, if_true, if_false]
    exact TK_pass (h_turnBy hn hc hl9 h44 h43 hg hx)
  · obtain ⟨ex, hx⟩ := in0 rfl
    rw [if_neg (show ¬ nI 4 = (1 : Int32) by decide), if_neg (show ¬ nI 4 = (2 : Int32) by decide), if_neg (show ¬ nI 4 = (3 : Int32) by decide), if_pos (show nI 4 = (4 : Int32) from rfl), ex, ← Int32.ofInt_neg]
    show TK n g T _ (retG G N F L (aTurtle 4 (tNum v) (tNum u) G))
    unfold aTurtle
    simp only [Nat.reduceEqDiff, if_true, if_false]
    exact TK_pass (h_turnBy hn hc hl9 h44 h43 hg (by omega))
  · obtain ⟨ex, hx⟩ := in0 rfl
    rw [if_neg (show ¬ nI 5 = (1 : Int32) by decide), if_neg (show ¬ nI 5 = (2 : Int32) by decide), if_neg (show ¬ nI 5 = (3 : Int32) by decide), if_neg (show ¬ nI 5 = (4 : Int32) by decide), if_pos (show nI 5 = (5 : Int32) from rfl), ex]
    show TK n g T _ (retG G N F L (aTurtle 5 (tNum v) (tNum u) G))
    unfold aTurtle
    simp only [Nat.reduceEqDiff, if_true, if_false]
    exact TK_pass (h_turnTo (b := 0) hn hc hl9 h44 h43 hg (by decide) hx)
  · rw [if_neg (show ¬ nI 6 = (1 : Int32) by decide), if_neg (show ¬ nI 6 = (2 : Int32) by decide), if_neg (show ¬ nI 6 = (3 : Int32) by decide), if_neg (show ¬ nI 6 = (4 : Int32) by decide), if_neg (show ¬ nI 6 = (5 : Int32) by decide), if_pos (show nI 6 = (6 : Int32) from rfl)]
    show TK n g T _ (retG G N F L (aTurtle 6 (tNum v) (tNum u) G))
    unfold aTurtle
    simp only [Nat.reduceEqDiff, if_true, if_false]
    exact TK_pass (h_lower (b := false) hn hc hl9 h44 h43 hg)
  · rw [if_neg (show ¬ nI 7 = (1 : Int32) by decide), if_neg (show ¬ nI 7 = (2 : Int32) by decide), if_neg (show ¬ nI 7 = (3 : Int32) by decide), if_neg (show ¬ nI 7 = (4 : Int32) by decide), if_neg (show ¬ nI 7 = (5 : Int32) by decide), if_neg (show ¬ nI 7 = (6 : Int32) by decide), if_pos (show nI 7 = (7 : Int32) from rfl)]
    show TK n g T _ (retG G N F L (aTurtle 7 (tNum v) (tNum u) G))
    unfold aTurtle
    simp only [Nat.reduceEqDiff, if_true, if_false]
    exact TK_pass (h_lower (b := true) hn hc hl9 h44 h43 hg)
  · obtain ⟨ex, hx⟩ := in0 rfl
    rw [if_neg (show ¬ nI 8 = (1 : Int32) by decide), if_neg (show ¬ nI 8 = (2 : Int32) by decide), if_neg (show ¬ nI 8 = (3 : Int32) by decide), if_neg (show ¬ nI 8 = (4 : Int32) by decide), if_neg (show ¬ nI 8 = (5 : Int32) by decide), if_neg (show ¬ nI 8 = (6 : Int32) by decide), if_neg (show ¬ nI 8 = (7 : Int32) by decide), if_pos (show nI 8 = (8 : Int32) from rfl), ex]
    show TK n g T _ (retG G N F L (aTurtle 8 (tNum v) (tNum u) G))
    unfold aTurtle
    simp only [Nat.reduceEqDiff, if_true, if_false]
    exact TK_pass (h_takePen hn hc hl9 h44 h43 hg hx)
  · rw [if_neg (show ¬ nI 9 = (1 : Int32) by decide), if_neg (show ¬ nI 9 = (2 : Int32) by decide), if_neg (show ¬ nI 9 = (3 : Int32) by decide), if_neg (show ¬ nI 9 = (4 : Int32) by decide), if_neg (show ¬ nI 9 = (5 : Int32) by decide), if_neg (show ¬ nI 9 = (6 : Int32) by decide), if_neg (show ¬ nI 9 = (7 : Int32) by decide), if_neg (show ¬ nI 9 = (8 : Int32) by decide), if_pos (show nI 9 = (9 : Int32) from rfl)]
    show TK n g T _ (retG G N F L (aTurtle 9 (tNum v) (tNum u) G))
    unfold aTurtle
    simp only [Nat.reduceEqDiff, if_true, if_false]
    exact TK_pass (h_goHome hn hc hl9 h44 h43 hg)
  · obtain ⟨ex, hx⟩ := in0 rfl
    obtain ⟨ey, hy⟩ := in1 rfl
    rw [if_neg (show ¬ nI 10 = (1 : Int32) by decide), if_neg (show ¬ nI 10 = (2 : Int32) by decide), if_neg (show ¬ nI 10 = (3 : Int32) by decide), if_neg (show ¬ nI 10 = (4 : Int32) by decide), if_neg (show ¬ nI 10 = (5 : Int32) by decide), if_neg (show ¬ nI 10 = (6 : Int32) by decide), if_neg (show ¬ nI 10 = (7 : Int32) by decide), if_neg (show ¬ nI 10 = (8 : Int32) by decide), if_neg (show ¬ nI 10 = (9 : Int32) by decide), if_pos (show nI 10 = (10 : Int32) from rfl), ex, ey]
    show TK n g T _ (retG G N F L (aTurtle 10 (tNum v) (tNum u) G))
    unfold aTurtle
    simp only [Nat.reduceEqDiff, if_true, if_false]
    exact TK_pass (h_putAt hn hc hl9 h44 h43 hg hx hy)
  · rw [if_neg (show ¬ nI 11 = (1 : Int32) by decide), if_neg (show ¬ nI 11 = (2 : Int32) by decide), if_neg (show ¬ nI 11 = (3 : Int32) by decide), if_neg (show ¬ nI 11 = (4 : Int32) by decide), if_neg (show ¬ nI 11 = (5 : Int32) by decide), if_neg (show ¬ nI 11 = (6 : Int32) by decide), if_neg (show ¬ nI 11 = (7 : Int32) by decide), if_neg (show ¬ nI 11 = (8 : Int32) by decide), if_neg (show ¬ nI 11 = (9 : Int32) by decide), if_neg (show ¬ nI 11 = (10 : Int32) by decide), if_pos (show nI 11 = (11 : Int32) from rfl)]
    show TK n g T _ (retG G N F L (aTurtle 11 (tNum v) (tNum u) G))
    unfold aTurtle
    simp only [Nat.reduceEqDiff, if_true, if_false]
    exact TK_pass (h_wipe hn hc hl9 h44 h43 hg)
  · obtain ⟨ex, hx⟩ := in0 rfl
    rw [if_neg (show ¬ nI 12 = (1 : Int32) by decide), if_neg (show ¬ nI 12 = (2 : Int32) by decide), if_neg (show ¬ nI 12 = (3 : Int32) by decide), if_neg (show ¬ nI 12 = (4 : Int32) by decide), if_neg (show ¬ nI 12 = (5 : Int32) by decide), if_neg (show ¬ nI 12 = (6 : Int32) by decide), if_neg (show ¬ nI 12 = (7 : Int32) by decide), if_neg (show ¬ nI 12 = (8 : Int32) by decide), if_neg (show ¬ nI 12 = (9 : Int32) by decide), if_neg (show ¬ nI 12 = (10 : Int32) by decide), if_neg (show ¬ nI 12 = (11 : Int32) by decide), if_pos (show nI 12 = (12 : Int32) from rfl), ex]
    show TK n g T _ (retG G N F L (aTurtle 12 (tNum v) (tNum u) G))
    unfold aTurtle
    simp only [Nat.reduceEqDiff, if_true, if_false]
    exact TK_pass (h_mean hn hc hl9 h44 h43 hg hx)
  · rw [if_neg (show ¬ nI 13 = (1 : Int32) by decide), if_neg (show ¬ nI 13 = (2 : Int32) by decide), if_neg (show ¬ nI 13 = (3 : Int32) by decide), if_neg (show ¬ nI 13 = (4 : Int32) by decide), if_neg (show ¬ nI 13 = (5 : Int32) by decide), if_neg (show ¬ nI 13 = (6 : Int32) by decide), if_neg (show ¬ nI 13 = (7 : Int32) by decide), if_neg (show ¬ nI 13 = (8 : Int32) by decide), if_neg (show ¬ nI 13 = (9 : Int32) by decide), if_neg (show ¬ nI 13 = (10 : Int32) by decide), if_neg (show ¬ nI 13 = (11 : Int32) by decide), if_neg (show ¬ nI 13 = (12 : Int32) by decide), if_pos (show nI 13 = (13 : Int32) from rfl), hc.2.1.2.2.2.2.1, show (4 : Int32) = nI 4 from rfl, h_part hc hg.1 (by decide), ob0_s, h_num (z := 30 * pI G (gTold G) 4) (by rw [Int32.ofInt_mul]; rfl), ob0_s]
    show TK n g T _ (retG G N F L (aTurtle 13 (tNum v) (tNum u) G))
    unfold aTurtle
    simp only [Nat.reduceEqDiff, if_true, if_false]
    exact num _ _ (by omega) (by omega) rfl
  · have fb := flH_b (p := pI G (gTold G) 0) (q := pI G (gTold G) 1) (M := 1000000) (p1 0 (by decide)) (p1 1 (by decide)) (by decide)
    rw [if_neg (show ¬ nI 14 = (1 : Int32) by decide), if_neg (show ¬ nI 14 = (2 : Int32) by decide), if_neg (show ¬ nI 14 = (3 : Int32) by decide), if_neg (show ¬ nI 14 = (4 : Int32) by decide), if_neg (show ¬ nI 14 = (5 : Int32) by decide), if_neg (show ¬ nI 14 = (6 : Int32) by decide), if_neg (show ¬ nI 14 = (7 : Int32) by decide), if_neg (show ¬ nI 14 = (8 : Int32) by decide), if_neg (show ¬ nI 14 = (9 : Int32) by decide), if_neg (show ¬ nI 14 = (10 : Int32) by decide), if_neg (show ¬ nI 14 = (11 : Int32) by decide), if_neg (show ¬ nI 14 = (12 : Int32) by decide), if_neg (show ¬ nI 14 = (13 : Int32) by decide), if_pos (show nI 14 = (14 : Int32) from rfl), show m_Turtles_floorOf n g i a (0 : Int32) = _ from h_floorOf (k := 0) hc hg (by decide), ob0_s, h_num rfl, ob0_s]
    show TK n g T _ (retG G N F L (aTurtle 14 (tNum v) (tNum u) G))
    unfold aTurtle
    simp only [Nat.reduceEqDiff, if_true, if_false]
    exact num _ _ (by show _ ≤ flH (pI G (gTold G) 0) (pI G (gTold G) 1); omega) (by show flH (pI G (gTold G) 0) (pI G (gTold G) 1) ≤ _; omega) rfl
  · have fb := flH_b (p := pI G (gTold G) 2) (q := pI G (gTold G) 3) (M := 1000000) (p1 2 (by decide)) (p1 3 (by decide)) (by decide)
    rw [if_neg (show ¬ nI 15 = (1 : Int32) by decide), if_neg (show ¬ nI 15 = (2 : Int32) by decide), if_neg (show ¬ nI 15 = (3 : Int32) by decide), if_neg (show ¬ nI 15 = (4 : Int32) by decide), if_neg (show ¬ nI 15 = (5 : Int32) by decide), if_neg (show ¬ nI 15 = (6 : Int32) by decide), if_neg (show ¬ nI 15 = (7 : Int32) by decide), if_neg (show ¬ nI 15 = (8 : Int32) by decide), if_neg (show ¬ nI 15 = (9 : Int32) by decide), if_neg (show ¬ nI 15 = (10 : Int32) by decide), if_neg (show ¬ nI 15 = (11 : Int32) by decide), if_neg (show ¬ nI 15 = (12 : Int32) by decide), if_neg (show ¬ nI 15 = (13 : Int32) by decide), if_neg (show ¬ nI 15 = (14 : Int32) by decide), if_pos (show nI 15 = (15 : Int32) from rfl), show m_Turtles_floorOf n g i a (1 : Int32) = _ from h_floorOf (k := 1) hc hg (by decide), ob0_s, h_num rfl, ob0_s]
    show TK n g T _ (retG G N F L (aTurtle 15 (tNum v) (tNum u) G))
    unfold aTurtle
    simp only [Nat.reduceEqDiff, if_true, if_false]
    exact num _ _ (by show _ ≤ flH (pI G (gTold G) 2) (pI G (gTold G) 3); omega) (by show flH (pI G (gTold G) 2) (pI G (gTold G) 3) ≤ _; omega) rfl
  · rw [if_neg (show ¬ nI 16 = (1 : Int32) by decide), if_neg (show ¬ nI 16 = (2 : Int32) by decide), if_neg (show ¬ nI 16 = (3 : Int32) by decide), if_neg (show ¬ nI 16 = (4 : Int32) by decide), if_neg (show ¬ nI 16 = (5 : Int32) by decide), if_neg (show ¬ nI 16 = (6 : Int32) by decide), if_neg (show ¬ nI 16 = (7 : Int32) by decide), if_neg (show ¬ nI 16 = (8 : Int32) by decide), if_neg (show ¬ nI 16 = (9 : Int32) by decide), if_neg (show ¬ nI 16 = (10 : Int32) by decide), if_neg (show ¬ nI 16 = (11 : Int32) by decide), if_neg (show ¬ nI 16 = (12 : Int32) by decide), if_neg (show ¬ nI 16 = (13 : Int32) by decide), if_neg (show ¬ nI 16 = (14 : Int32) by decide), if_neg (show ¬ nI 16 = (15 : Int32) by decide), if_pos (show nI 16 = (16 : Int32) from rfl)]
    unfold m_Turtles_colour
    rw [hc.2.1.2.2.2.2.1, show (5 : Int32) = nI 5 from rfl, h_part hc hg.1 (by decide), ob0_s, ob0_s, h_num rfl, ob0_s]
    show TK n g T _ (retG G N F L (aTurtle 16 (tNum v) (tNum u) G))
    unfold aTurtle
    simp only [Nat.reduceEqDiff, if_true, if_false]
    exact num _ _ (by omega) (by omega) rfl
  · have t8 := hg.1
    rw [if_neg (show ¬ nI 17 = (1 : Int32) by decide), if_neg (show ¬ nI 17 = (2 : Int32) by decide), if_neg (show ¬ nI 17 = (3 : Int32) by decide), if_neg (show ¬ nI 17 = (4 : Int32) by decide), if_neg (show ¬ nI 17 = (5 : Int32) by decide), if_neg (show ¬ nI 17 = (6 : Int32) by decide), if_neg (show ¬ nI 17 = (7 : Int32) by decide), if_neg (show ¬ nI 17 = (8 : Int32) by decide), if_neg (show ¬ nI 17 = (9 : Int32) by decide), if_neg (show ¬ nI 17 = (10 : Int32) by decide), if_neg (show ¬ nI 17 = (11 : Int32) by decide), if_neg (show ¬ nI 17 = (12 : Int32) by decide), if_neg (show ¬ nI 17 = (13 : Int32) by decide), if_neg (show ¬ nI 17 = (14 : Int32) by decide), if_neg (show ¬ nI 17 = (15 : Int32) by decide), if_neg (show ¬ nI 17 = (16 : Int32) by decide), if_pos (show nI 17 = (17 : Int32) from rfl), hc.2.1.2.2.2.2.1, h_num (nI_ofInt _), ob0_s]
    show TK n g T _ (retG G N F L (aTurtle 17 (tNum v) (tNum u) G))
    unfold aTurtle
    simp only [Nat.reduceEqDiff, if_true, if_false]
    exact num _ _ (by omega) (by omega) rfl
  · obtain ⟨c1, c2, c3⟩ := h_colourBelow (n := n) hc hg
    rw [if_neg (show ¬ nI 18 = (1 : Int32) by decide), if_neg (show ¬ nI 18 = (2 : Int32) by decide), if_neg (show ¬ nI 18 = (3 : Int32) by decide), if_neg (show ¬ nI 18 = (4 : Int32) by decide), if_neg (show ¬ nI 18 = (5 : Int32) by decide), if_neg (show ¬ nI 18 = (6 : Int32) by decide), if_neg (show ¬ nI 18 = (7 : Int32) by decide), if_neg (show ¬ nI 18 = (8 : Int32) by decide), if_neg (show ¬ nI 18 = (9 : Int32) by decide), if_neg (show ¬ nI 18 = (10 : Int32) by decide), if_neg (show ¬ nI 18 = (11 : Int32) by decide), if_neg (show ¬ nI 18 = (12 : Int32) by decide), if_neg (show ¬ nI 18 = (13 : Int32) by decide), if_neg (show ¬ nI 18 = (14 : Int32) by decide), if_neg (show ¬ nI 18 = (15 : Int32) by decide), if_neg (show ¬ nI 18 = (16 : Int32) by decide), if_neg (show ¬ nI 18 = (17 : Int32) by decide), if_pos (show nI 18 = (18 : Int32) from rfl), c1, ob0_s, h_num rfl, ob0_s]
    show TK n g T _ (retG G N F L (aTurtle 18 (tNum v) (tNum u) G))
    unfold aTurtle
    simp only [Nat.reduceEqDiff, if_true, if_false]
    exact num _ _ (by omega) (by omega) rfl
  · obtain ⟨ex, hx⟩ := in0 rfl
    obtain ⟨ey, hy⟩ := in1 rfl
    rw [if_neg (show ¬ nI 19 = (1 : Int32) by decide), if_neg (show ¬ nI 19 = (2 : Int32) by decide), if_neg (show ¬ nI 19 = (3 : Int32) by decide), if_neg (show ¬ nI 19 = (4 : Int32) by decide), if_neg (show ¬ nI 19 = (5 : Int32) by decide), if_neg (show ¬ nI 19 = (6 : Int32) by decide), if_neg (show ¬ nI 19 = (7 : Int32) by decide), if_neg (show ¬ nI 19 = (8 : Int32) by decide), if_neg (show ¬ nI 19 = (9 : Int32) by decide), if_neg (show ¬ nI 19 = (10 : Int32) by decide), if_neg (show ¬ nI 19 = (11 : Int32) by decide), if_neg (show ¬ nI 19 = (12 : Int32) by decide), if_neg (show ¬ nI 19 = (13 : Int32) by decide), if_neg (show ¬ nI 19 = (14 : Int32) by decide), if_neg (show ¬ nI 19 = (15 : Int32) by decide), if_neg (show ¬ nI 19 = (16 : Int32) by decide), if_neg (show ¬ nI 19 = (17 : Int32) by decide), if_neg (show ¬ nI 19 = (18 : Int32) by decide), if_pos (show nI 19 = (19 : Int32) from rfl), ex, ey]
    unfold m_Deeds_same
    rw [h_exists hx, ob0_s]
    show TK n g T _ (retG G N F L (aTurtle 19 (tNum v) (tNum u) G))
    unfold aTurtle
    simp only [Nat.reduceEqDiff, if_true, if_false]
    rcases Classical.em (tNum v < 0 ∨ 7 < tNum v) with e1 | e1
    · rw [if_pos e1, if_pos rfl, if_pos (by omega)]
      exact TK_er (e := 3) rfl (by omega) hc hl9 h44 (by decide) (by decide)
    · rw [if_neg e1, if_neg (by decide), h_exists hy, ob0_s]
      rcases Classical.em (tNum u < 0 ∨ 7 < tNum u) with e2 | e2
      · rw [if_pos e2, if_pos rfl, if_pos (by omega)]
        exact TK_er (e := 3) rfl (by omega) hc hl9 h44 (by decide) (by decide)
      · rw [if_neg e2, if_neg (by decide), if_neg (by omega)]
        unfold m_Turtles_atOnePlace
        have w := h_onePlace (n := n) (x := (tNum v).toNat) (y := (tNum u).toNat) hc hg (by omega) (by omega) 4 0 n rfl (by omega) (fun j hj => by omega)
        rw [nI_ofInt (tNum v).toNat, nI_ofInt (tNum u).toNat, Int.toNat_of_nonneg (by omega), Int.toNat_of_nonneg (by omega)] at w
        rw [show m_Turtles_atOnePlace_b2 n g i a n (Int32.ofInt (tNum v)) (Int32.ofInt (tNum u)) (0 : Int32) = _ from w, ob0_s]
        obtain ⟨z, t1, t2⟩ := h_truth (n := n) (b := decide (pI G (tNum v).toNat 0 = pI G (tNum u).toNat 0 ∧ pI G (tNum v).toNat 1 = pI G (tNum u).toNat 1 ∧ pI G (tNum v).toNat 2 = pI G (tNum u).toNat 2 ∧ pI G (tNum v).toNat 3 = pI G (tNum u).toNat 3)) hc
        rw [t1, ob0_s, ob0_s]
        exact TK_gv (r := .ok (some (aTruth _))) rfl (by omega) hc hl9 h44 h43 t2 trivial
