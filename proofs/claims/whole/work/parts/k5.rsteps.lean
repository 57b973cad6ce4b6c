/-! the reference's turtles go -/
def rTu (i : Nat → Int32) (a : Nat → Nat → Int32) (G : GS) : Prop :=
  (∀ t k, t < 8 → k < 7 → a (37 + k) t = gParts G (7 * t + k)) ∧ (∀ x, x < 4096 → a 44 x = gDots G x) ∧ i 47 = nI (gTold G)
def tur4 (a : Nat → Nat → Int32) (t : Nat) (x : Nat → Int) : Nat → Nat → Int32 := fun q => if 37 ≤ q ∧ q < 41 then upd (a q) t (Int32.ofInt (x (q - 37))) else a q
theorem r_set {n : Nat} {i : Nat → Int32} {j : Nat → Int64} {a : Nat → Nat → Int32} {b : Nat → Nat → Int64} {t : Nat} {x : Nat → Int} (ht : t < 8) : m_Model_set n i j a b (nI t) (Int32.ofInt (x 0)) (Int32.ofInt (x 1)) (Int32.ofInt (x 2)) (Int32.ofInt (x 3)) = some (i, j, tur4 a t x, b, 0) := by
  unfold m_Model_set
  simp (disch := omega) only [ob_s, ob0_s, ob1_s, i32_lit, ile_p, ile_n, ilt_p, ilt_n, ieq_p, ieq_n, ck_n, cl_n, sub_n, nI_add, sh_w, sh_l, an3_w, an3_l, an1_w, an1_l, hN_1, hN_3w, hN_3l, if_true, if_false]
  refine congrArg (fun z => some (i, j, z, b, (0 : Int32))) ?_
  funext q
  unfold tur4
  rcases (by omega : q = 37 ∨ q = 38 ∨ q = 39 ∨ q = 40 ∨ (q ≠ 37 ∧ q ≠ 38 ∧ q ≠ 39 ∧ q ≠ 40)) with rfl | rfl | rfl | rfl | ⟨h1, h2, h3, h4⟩
  · rfl
  · rfl
  · rfl
  · rfl
  · rw [if_neg (by omega)]
    unfold sv updA
    rw [if_neg h4, if_neg h3, if_neg h2, if_neg h1]
theorem rTu_4 {i : Nat → Int32} {a : Nat → Nat → Int32} {G : GS} {x : Nat → Int} (h : rTu i a G) (ht : gTold G < 8) : rTu i (tur4 a (gTold G) x) (set4 G x) := by
  obtain ⟨h1, h2, h3⟩ := h
  refine ⟨fun t k h8 h7 => ?_, fun y hy => ?_, h3⟩
  · rw [gP_set4]
    unfold tur4
    rcases Classical.em (k < 4) with c | c
    · rw [if_pos (by omega)]
      unfold upd
      rcases Classical.em (t = gTold G) with d | d
      · rw [if_pos d, if_pos (by omega), d, show 37 + k - 37 = k by omega, show 7 * gTold G + k - 7 * gTold G = k by omega]
      · rw [if_neg d, if_neg (by omega)]
        exact h1 t k h8 h7
    · rw [if_neg (by omega), if_neg (by omega)]
      exact h1 t k h8 h7
  · show tur4 a (gTold G) x 44 y = gDots G y
    unfold tur4
    rw [if_neg (by omega)]
    exact h2 y hy
theorem r_beyond {n : Nat} {x : Int} (hx : -2000000000 ≤ x ∧ x ≤ 2000000000) : m_Model_isBeyond n (Int32.ofInt x) = some (b1 (aFar x)) := by
  unfold m_Model_isBeyond aFar
  rw [show (1000000 : Int32) = Int32.ofInt 1000000 from rfl, show (-Int32.ofInt 1000000 : Int32) = Int32.ofInt (-1000000) by decide]
  rcases Classical.em (1000000 < x) with c | c
  · rw [if_pos ((I_lt (by omega) (by omega)).mpr c), decide_eq_true (Or.inr c)]
    rfl
  · rw [if_neg (fun e => c ((I_lt (by omega) (by omega)).mp e))]
    rcases Classical.em (-1000000 ≤ x) with d | d
    · rw [if_pos ((I_le (by omega) (by omega)).mpr d), decide_eq_false (by omega)]
      rfl
    · rw [if_neg (fun e => d ((I_le (by omega) (by omega)).mp e)), decide_eq_true (Or.inl (by omega))]
      rfl
theorem b1_0 (q : Bool) : (b1 q = (0 : Int32)) ↔ q = false := by cases q <;> decide
def rGo (i : Nat → Int32) (j : Nat → Int64) (a : Nat → Nat → Int32) (b : Nat → Nat → Int64) (G : GS) (r : Except Nat GS) (o : Option ((Nat → Int32) × (Nat → Int64) × (Nat → Nat → Int32) × (Nat → Nat → Int64) × Int64)) : Prop := match r with
  | .error e => o = some (rFail i e, j, a, b, 3)
  | .ok G' => ∃ a', o = some (i, j, a', b, 3) ∧ rTu i a' G' ∧ ∀ q, (q < 37 ∨ 44 < q) → a' q = a q
theorem r_s161 {n : Nat} {i : Nat → Int32} {j : Nat → Int64} {a : Nat → Nat → Int32} {b : Nat → Nat → Int64} {G : GS} {d : Nat} {tm : Int} {s e : Nat → Int} {s0 s1 : Int32} (hn : 100 ≤ n) (hT : rTu i a G) (hg : gOk G) (hd : d < 6) (hs : s = fun k => pI G (gTold G) k) (he : e = fun k => s k + tm * aSteps d k) (htm : -1000 ≤ tm ∧ tm ≤ 1000) (h01 : s1 + s0 = Int32.ofInt (e 3)) : rGo i j a b G (if aFar (e 0) || aFar (e 1) || aFar (e 2) || aFar (e 3) then .error 7 else
  .ok (set4 (if pI G (gTold G) 6 = 1 then gSetDots G (aDraw s e d (gParts G (7 * gTold G + 5)) (gDots G)) else G) e)) (m_Model_steps_b161 n i j a b (nI (gTold G)) (nI d) (Int32.ofInt (e 0)) (Int32.ofInt (e 1)) (Int32.ofInt (e 2)) s0 s1) := by
  have ht8 : gTold G < 8 := hg.1
  obtain ⟨p1, p2, p3, p4, p5, p6⟩ := hg.2.2.2.2.1 (gTold G) ht8
  have hsb : ∀ k, k < 4 → -1000000 ≤ s k ∧ s k ≤ 1000000 := fun k hk => by rw [hs]; exact p1 k hk
  have hee : ∀ k, e k = s k + tm * aSteps d k := fun k => by rw [he]
  have heb : ∀ k, k < 4 → -1002000 ≤ e k ∧ e k ≤ 1002000 := fun k hk => by
    have := tm_b htm d k
    have := hsb k hk
    rw [hee]
    omega
  have b0 := heb 0 (by decide)
  have b1_ := heb 1 (by decide)
  have b2 := heb 2 (by decide)
  have b3 := heb 3 (by decide)
  have ef : m_Model_fails n i j a b (7 : Int32) = some (rFail i 7, j, a, b, 3) := r_fails 7
  unfold m_Model_steps_b161
  rw [ob1_s, h01, r_beyond (by omega), ob0_s, r_beyond (by omega), ob0_s, r_beyond (by omega), ob0_s, r_beyond (by omega), ob0_s, ef, om_s]
  rcases Bool.eq_false_or_eq_true (aFar (e 0)) with c | c
  · rw [c, if_neg (show ¬ b1 true = (0 : Int32) by decide)]
    exact (rfl)
  rw [c, if_pos (show b1 false = (0 : Int32) by decide)]
  rcases Bool.eq_false_or_eq_true (aFar (e 1)) with c1 | c1
  · rw [c1, if_neg (show ¬ b1 true = (0 : Int32) by decide)]
    exact (rfl)
  rw [c1, if_pos (show b1 false = (0 : Int32) by decide)]
  rcases Bool.eq_false_or_eq_true (aFar (e 2)) with c2 | c2
  · rw [c2, if_neg (show ¬ b1 true = (0 : Int32) by decide)]
    exact (rfl)
  rw [c2, if_pos (show b1 false = (0 : Int32) by decide)]
  rcases Bool.eq_false_or_eq_true (aFar (e 3)) with c3 | c3
  · rw [c3, if_neg (show ¬ b1 true = (0 : Int32) by decide)]
    exact (rfl)
  rw [c3, if_pos (show b1 false = (0 : Int32) by decide), if_neg (show ¬ ((false || false || false || false) = true) by decide)]
  have far : ∀ x : Int, aFar x = false → -1000000 ≤ x ∧ x ≤ 1000000 := fun x hx => by
    unfold aFar at hx
    have := of_decide_eq_false hx
    omega
  have hfb : ∀ k, k < 4 → -1000000 ≤ e k ∧ e k ≤ 1000000 := fun k hk => by
    rcases (by omega : k = 0 ∨ k = 1 ∨ k = 2 ∨ k = 3) with rfl | rfl | rfl | rfl
    · exact far _ c
    · exact far _ c1
    · exact far _ c2
    · exact far _ c3
  obtain ⟨h1, h2, h3⟩ := hT
  have hrow : ∀ k, k < 4 → a (37 + k) (gTold G) = Int32.ofInt (s k) := fun k hk => by rw [h1 _ _ ht8 (by omega), hs, pI_of]
  have r37 := hrow 0 (by decide)
  have r38 := hrow 1 (by decide)
  have r39 := hrow 2 (by decide)
  have r40 := hrow 3 (by decide)
  have r42 : a 42 (gTold G) = gParts G (7 * gTold G + 5) := h1 _ 5 ht8 (by decide)
  have r43 : a 43 (gTold G) = Int32.ofInt (pI G (gTold G) 6) := by rw [← pI_of]; exact h1 _ 6 ht8 (by decide)
  have cl : (nI (gTold G)).toNatClampNeg = gTold G := cl_n (by omega)
  have w : ∀ (α : Type) (o : Option α), ck (nI (gTold G)) 8 o = o := fun α o => ck_n ⟨ht8, by decide⟩
  have set : ∀ A, m_Model_steps_b371 n i j A b (nI (gTold G)) (Int32.ofInt (e 0)) (Int32.ofInt (e 1)) (Int32.ofInt (e 2)) (Int32.ofInt (e 3)) = some (i, j, tur4 A (gTold G) e, b, 3) := fun A => by
    unfold m_Model_steps_b371
    rw [r_set ht8, om_s]
  have up : ∀ D : GS, ∀ A, rTu i A D → gTold D = gTold G → (∀ q, (q < 37 ∨ 44 < q) → A q = a q) → rGo i j a b G (.ok (set4 D e)) (some (i, j, tur4 A (gTold G) e, b, 3)) := fun D A hA hD hq => by
    refine ⟨_, rfl, ?_, fun q h9 => ?_⟩
    · rw [← hD]
      exact rTu_4 hA (by omega)
    · unfold tur4
      rw [if_neg (by omega)]
      exact hq q h9
  have pen : m_Model_steps_b218 n i j a b (nI (gTold G)) (nI d) (Int32.ofInt (e 0)) (Int32.ofInt (e 1)) (Int32.ofInt (e 2)) (Int32.ofInt (e 3)) (b1 (decide (2 ≤ d ∧ d ≤ 4))) = (if pI G (gTold G) 6 = 1 then some (i, j, tur4 (updA a 44 (aDraw s e d (gParts G (7 * gTold G + 5)) (a 44))) (gTold G) e, b, 3) else some (i, j, tur4 a (gTold G) e, b, 3)) := by
    unfold m_Model_steps_b218 m_Model_steps_b300
    simp only [w, cl, r43, r42, r37, r38, r39, r40]
    rcases p6 with q | q
    · rw [q, if_neg (by decide), if_neg (by decide), if_neg (by decide), set]
    · rw [q, if_pos (show (1 : Int) = 1 from rfl)]
      rcases (by omega : d = 0 ∨ d = 1 ∨ d = 2 ∨ d = 3 ∨ d = 4 ∨ d = 5) with rfl | rfl | rfl | rfl | rfl | rfl
      · have dr := r_draws (n := n) (i := i) (j := j) (a := a) (b := b) (s := s) (e := e) (dir := 0) (ld := 2) (fo := 0) (tm := tm) (sl := 0) (col := gParts G (7 * gTold G + 5)) (byc := false) hn (by decide) hsb hfb (fun k _ => hee k) (by decide) (by decide) (by decide) (by decide)
        rw [if_pos (by decide), if_pos (by decide), if_pos (by decide)]
        rw [if_pos (by decide)]
        unfold m_Model_steps_b361
        rw [w, cl, r42]
        refine (congrArg (fun z => om z _) (show _ = _ from dr)).trans ?_
        rw [om_s, set]
      · have dr := r_draws (n := n) (i := i) (j := j) (a := a) (b := b) (s := s) (e := e) (dir := 1) (ld := 2) (fo := 0) (tm := tm) (sl := 1) (col := gParts G (7 * gTold G + 5)) (byc := false) hn (by decide) hsb hfb (fun k _ => hee k) (by decide) (by decide) (by decide) (by decide)
        rw [if_pos (by decide), if_pos (by decide), if_pos (by decide)]
        rw [if_neg (by decide), if_pos (by decide)]
        unfold m_Model_steps_b361
        rw [w, cl, r42]
        refine (congrArg (fun z => om z _) (show _ = _ from dr)).trans ?_
        rw [om_s, set]
      · have dr := r_draws (n := n) (i := i) (j := j) (a := a) (b := b) (s := s) (e := e) (dir := 2) (ld := 0) (fo := 2) (tm := tm) (sl := 1) (col := gParts G (7 * gTold G + 5)) (byc := true) hn (by decide) hsb hfb (fun k _ => hee k) (by decide) (by decide) (by decide) (by decide)
        rw [if_pos (by decide), if_neg (by decide)]
        rw [if_neg (by decide), if_pos (by decide)]
        unfold m_Model_steps_b287
        rw [w, cl, r42]
        refine (congrArg (fun z => om z _) (show _ = _ from dr)).trans ?_
        rw [om_s, set]
      · have dr := r_draws (n := n) (i := i) (j := j) (a := a) (b := b) (s := s) (e := e) (dir := 3) (ld := 0) (fo := 2) (tm := tm) (sl := 0) (col := gParts G (7 * gTold G + 5)) (byc := true) hn (by decide) hsb hfb (fun k _ => hee k) (by decide) (by decide) (by decide) (by decide)
        rw [if_pos (by decide), if_neg (by decide)]
        rw [if_pos (by decide)]
        unfold m_Model_steps_b287
        rw [w, cl, r42]
        refine (congrArg (fun z => om z _) (show _ = _ from dr)).trans ?_
        rw [om_s, set]
      · have dr := r_draws (n := n) (i := i) (j := j) (a := a) (b := b) (s := s) (e := e) (dir := 4) (ld := 0) (fo := 2) (tm := tm) (sl := -1) (col := gParts G (7 * gTold G + 5)) (byc := true) hn (by decide) hsb hfb (fun k _ => hee k) (by decide) (by decide) (by decide) (by decide)
        rw [if_pos (by decide), if_neg (by decide)]
        rw [if_neg (by decide), if_neg (by decide)]
        unfold m_Model_steps_b287
        rw [w, cl, r42]
        refine (congrArg (fun z => om z _) (show _ = _ from dr)).trans ?_
        rw [om_s, set]
      · have dr := r_draws (n := n) (i := i) (j := j) (a := a) (b := b) (s := s) (e := e) (dir := 5) (ld := 2) (fo := 0) (tm := tm) (sl := -1) (col := gParts G (7 * gTold G + 5)) (byc := false) hn (by decide) hsb hfb (fun k _ => hee k) (by decide) (by decide) (by decide) (by decide)
        rw [if_pos (by decide), if_pos (by decide), if_pos (by decide)]
        rw [if_neg (by decide), if_neg (by decide)]
        unfold m_Model_steps_b361
        rw [w, cl, r42]
        refine (congrArg (fun z => om z _) (show _ = _ from dr)).trans ?_
        rw [om_s, set]
  have fin : rGo i j a b G (.ok (set4 (if pI G (gTold G) 6 = 1 then gSetDots G (aDraw s e d (gParts G (7 * gTold G + 5)) (gDots G)) else G) e)) (m_Model_steps_b218 n i j a b (nI (gTold G)) (nI d) (Int32.ofInt (e 0)) (Int32.ofInt (e 1)) (Int32.ofInt (e 2)) (Int32.ofInt (e 3)) (b1 (decide (2 ≤ d ∧ d ≤ 4)))) := by
    rw [pen]
    rcases p6 with q | q
    · rw [q, if_neg (by decide), if_neg (by decide)]
      exact up G a ⟨h1, h2, h3⟩ rfl (fun _ _ => rfl)
    · rw [q, if_pos rfl, if_pos rfl]
      refine up _ _ ⟨fun t k x8 x7 => ?_, fun x hx => ?_, h3⟩ rfl (fun q h9 => updA_ne (by omega))
      · rw [updA_ne (by omega)]
        exact h1 t k x8 x7
      · rw [updA_at]
        exact aDots_cong _ _ _ _ _ _ _ h2 x hx
  unfold m_Model_steps_b217
  rw [show (2 : Int32) = nI 2 from rfl, show (4 : Int32) = nI 4 from rfl]
  rcases Classical.em (d < 2) with k2 | k2
  · rw [ilt_p (by omega)]
    rw [decide_eq_false (show ¬ (2 ≤ d ∧ d ≤ 4) by omega)] at fin
    exact fin
  rw [ilt_n (by omega)]
  rcases Classical.em (4 < d) with k4 | k4
  · rw [ilt_p (by omega)]
    rw [decide_eq_false (show ¬ (2 ≤ d ∧ d ≤ 4) by omega)] at fin
    exact fin
  rw [ilt_n (by omega)]
  rw [decide_eq_true (show 2 ≤ d ∧ d ≤ 4 by omega)] at fin
  exact fin

