/-! turtles: forward, and the words -/
theorem h_max2 {n : Nat} {x y : Int} (hx : -1000000000 ≤ x ∧ x ≤ 1000000000) (hy : -1000000000 ≤ y ∧ y ≤ 1000000000) : m_Math_max2 n (Int64.ofInt x) (Int64.ofInt y) = some (Int64.ofInt (max x y)) := by
  unfold m_Math_max2
  rcases Classical.em (x < y) with h | h
  · rw [if_pos ((lg_lt (by omega) (by omega)).mpr h), Int.max_eq_right (by omega)]
  · rw [if_neg (fun e => h ((lg_lt (by omega) (by omega)).mp e)), Int.max_eq_left (by omega)]
theorem h_min2 {n : Nat} {x y : Int} (hx : -1000000000 ≤ x ∧ x ≤ 1000000000) (hy : -1000000000 ≤ y ∧ y ≤ 1000000000) : m_Math_min2 n (Int64.ofInt x) (Int64.ofInt y) = some (Int64.ofInt (min x y)) := by
  unfold m_Math_min2
  rcases Classical.em (y < x) with h | h
  · rw [if_pos ((lg_gt (by omega) (by omega)).mpr h), Int.min_eq_right (by omega)]
  · rw [if_neg (fun e => h ((lg_gt (by omega) (by omega)).mp e)), Int.min_eq_left (by omega)]

theorem h_b111 {n : Nat} {g : Nat → Nat} {i : Nat → Int32} {a : Nat → Nat → Int32} {s e : Nat → Int} {ld dir : Nat} {col : Int32} {byc : Bool} (hn : 100 ≤ n) (hld : ld = 0 ∨ ld = 2) (hdir : dir < 6) (hb : ∀ k, k < 4 → -1000000 ≤ s k ∧ s k ≤ 1000000) (hb' : ∀ k, k < 4 → -1000000 ≤ e k ∧ e k ≤ 1000000) (hs : ∀ k, k < 4 → a 22 k = Int32.ofInt (s k)) (he : ∀ k, k < 4 → a 23 k = Int32.ofInt (e k)) : m_Turtles_draw_b111 n g i a (nI dir) col (b1 byc) (nI ld) (nI (2 - ld)) = some (i, updA a 21 (aDots col (aAcross s e s ld (2 - ld) (aSlope dir)) byc (min (flH (s ld + 1) (s (ld + 1))) 31 + 1 - max (flH (e ld + 1) (e (ld + 1))) (-32)).toNat (max (flH (e ld + 1) (e (ld + 1))) (-32)) (a 21)), nI 0) := by
  have w : ∀ x, x < 4 → ∀ (α : Type) (o : Option α), ck (nI x) 4 o = o := fun x hx α o => ck_n ⟨hx, by decide⟩
  have hlb := hb ld (by omega)
  have hlb1 := hb (ld + 1) (by omega)
  have hlc := hb' ld (by omega)
  have hlc1 := hb' (ld + 1) (by omega)
  have f1 := flH_b (p := e ld + 1) (q := e (ld + 1)) (M := 1000001) (by omega) (by omega) (by decide)
  have f2 := flH_b (p := s ld + 1) (q := s (ld + 1)) (M := 1000001) (by omega) (by omega) (by decide)
  unfold m_Turtles_draw_b111
  rw [w ld (by omega), show nI ld + (1 : Int32) = nI (ld + 1) from nI_add ld 1, w (ld + 1) (by omega), cl_n (by omega), cl_n (by omega), he ld (by omega), he (ld + 1) (by omega), show Int32.ofInt (e ld) + (1 : Int32) = Int32.ofInt (e ld + 1) by rw [Int32.ofInt_add]; rfl, i32_64 (x := e ld + 1) (by omega) (by omega), i32_64 (x := e (ld + 1)) (by omega) (by omega), h_half (p := e ld + 1) (q := e (ld + 1)) (by omega) (by omega), ob0_s, show (-32 : Int64) = Int64.ofInt (-32) from by decide, h_max2 (by omega) (by omega), ob0_s, w ld (by omega), w (ld + 1) (by omega), hs ld (by omega), hs (ld + 1) (by omega), show Int32.ofInt (s ld) + (1 : Int32) = Int32.ofInt (s ld + 1) by rw [Int32.ofInt_add]; rfl, i32_64 (by omega) (by omega), i32_64 (by omega) (by omega), h_half (by omega) (by omega), ob0_s, show (31 : Int64) = Int64.ofInt 31 from rfl, h_min2 (by omega) (by omega), ob0_s, Int64.toInt32_ofInt, Int64.toInt32_ofInt]
  exact h_b173 hld hdir hb hb' (by omega) (by omega) _ n _ a (by omega) hs he (by omega) (by omega) rfl

theorem h_b111c {n : Nat} {g : Nat → Nat} {i : Nat → Int32} {a : Nat → Nat → Int32} {s e : Nat → Int} {ld dir : Nat} {col : Int32} {byc : Bool} (hn : 100 ≤ n) (hld : ld = 0 ∨ ld = 2) (hdir : dir < 6) (hb : ∀ k, k < 4 → -1000000 ≤ s k ∧ s k ≤ 1000000) (hb' : ∀ k, k < 4 → -1000000 ≤ e k ∧ e k ≤ 1000000) (hs : ∀ k, k < 4 → a 22 k = Int32.ofInt (s k)) (he : ∀ k, k < 4 → a 23 k = Int32.ofInt (e k)) : m_Turtles_draw_b111c n g i a (nI dir) col (b1 byc) (nI ld) (nI (2 - ld)) = some (i, updA a 21 (aDots col (aAcross s s e ld (2 - ld) (aSlope dir)) byc (min (flH (e ld + 1) (e (ld + 1))) 31 + 1 - max (flH (s ld + 1) (s (ld + 1))) (-32)).toNat (max (flH (s ld + 1) (s (ld + 1))) (-32)) (a 21)), nI 0) := by
  have w : ∀ x, x < 4 → ∀ (α : Type) (o : Option α), ck (nI x) 4 o = o := fun x hx α o => ck_n ⟨hx, by decide⟩
  have hlb := hb ld (by omega)
  have hlb1 := hb (ld + 1) (by omega)
  have hlc := hb' ld (by omega)
  have hlc1 := hb' (ld + 1) (by omega)
  have f1 := flH_b (p := s ld + 1) (q := s (ld + 1)) (M := 1000001) (by omega) (by omega) (by decide)
  have f2 := flH_b (p := e ld + 1) (q := e (ld + 1)) (M := 1000001) (by omega) (by omega) (by decide)
  unfold m_Turtles_draw_b111c
  rw [w ld (by omega), show nI ld + (1 : Int32) = nI (ld + 1) from nI_add ld 1, w (ld + 1) (by omega), cl_n (by omega), cl_n (by omega), hs ld (by omega), hs (ld + 1) (by omega), show Int32.ofInt (s ld) + (1 : Int32) = Int32.ofInt (s ld + 1) by rw [Int32.ofInt_add]; rfl, i32_64 (x := s ld + 1) (by omega) (by omega), i32_64 (x := s (ld + 1)) (by omega) (by omega), h_half (p := s ld + 1) (q := s (ld + 1)) (by omega) (by omega), ob0_s, show (-32 : Int64) = Int64.ofInt (-32) from by decide, h_max2 (by omega) (by omega), ob0_s, w ld (by omega), w (ld + 1) (by omega), he ld (by omega), he (ld + 1) (by omega), show Int32.ofInt (e ld) + (1 : Int32) = Int32.ofInt (e ld + 1) by rw [Int32.ofInt_add]; rfl, i32_64 (by omega) (by omega), i32_64 (by omega) (by omega), h_half (by omega) (by omega), ob0_s, show (31 : Int64) = Int64.ofInt 31 from rfl, h_min2 (by omega) (by omega), ob0_s, Int64.toInt32_ofInt, Int64.toInt32_ofInt]
  exact h_b173c hld hdir hb hb' (by omega) (by omega) _ n _ a (by omega) hs he (by omega) (by omega) rfl

theorem h_b25 {n : Nat} {g : Nat → Nat} {i : Nat → Int32} {a : Nat → Nat → Int32} {s e : Nat → Int} {dir : Nat} {col : Int32} {byc : Bool} (hn : 100 ≤ n) (hdir : dir < 6) (hy : byc = decide (2 ≤ dir ∧ dir ≤ 4)) (hb : ∀ k, k < 4 → -1000000 ≤ s k ∧ s k ≤ 1000000) (hb' : ∀ k, k < 4 → -1000000 ≤ e k ∧ e k ≤ 1000000) (hs : ∀ k, k < 4 → a 22 k = Int32.ofInt (s k)) (he : ∀ k, k < 4 → a 23 k = Int32.ofInt (e k)) : m_Turtles_draw_b25 n g i a (nI dir) col (b1 byc) (nI (if byc then 0 else 2)) = some (i, updA a 21 (aDraw s e dir col (a 21)), nI 0) := by
  unfold aDraw
  dsimp only
  rw [← hy]
  generalize hL : (if byc = true then 0 else 2 : Nat) = ld
  have hld : ld = 0 ∨ ld = 2 := by rw [← hL]; cases byc <;> simp
  have w : ∀ x, x < 4 → ∀ (α : Type) (o : Option α), ck (nI x) 4 o = o := fun x hx α o => ck_n ⟨hx, by decide⟩
  have hlb := hb ld (by omega)
  have hlb1 := hb (ld + 1) (by omega)
  have hlc := hb' ld (by omega)
  have hlc1 := hb' (ld + 1) (by omega)
  unfold m_Turtles_draw_b25
  rw [show (2 : Int32) - nI ld = nI (2 - ld) from sub_n (a := 2) (b := ld) (by omega), ob1_s, w ld (by omega), show nI ld + (1 : Int32) = nI (ld + 1) from nI_add ld 1, w (ld + 1) (by omega), w ld (by omega), w (ld + 1) (by omega), cl_n (by omega), cl_n (by omega), hs ld (by omega), hs (ld + 1) (by omega), he ld (by omega), he (ld + 1) (by omega), ← Int32.ofInt_add, ← Int32.ofInt_add]
  rcases Classical.em (s ld + s (ld + 1) < e ld + e (ld + 1)) with h | h
  · rw [if_neg (fun e9 => by have := (I_le (by omega) (by omega)).mp e9; omega), decide_eq_true h]
    unfold m_Turtles_draw_b75
    rw [if_neg (by decide)]
    unfold m_Turtles_draw_b93a
    rw [if_neg (by decide)]
    exact h_b111c hn hld hdir hb hb' hs he
  · rw [if_pos ((I_le (by omega) (by omega)).mpr (by omega)), decide_eq_false h]
    unfold m_Turtles_draw_b75
    rw [if_pos rfl]
    unfold m_Turtles_draw_b93
    rw [if_pos rfl]
    exact h_b111 hn hld hdir hb hb' hs he
theorem h_draw {n : Nat} {g : Nat → Nat} {i : Nat → Int32} {a : Nat → Nat → Int32} {s e : Nat → Int} {dir : Nat} {col : Int32} (hn : 100 ≤ n) (hdir : dir < 6) (hb : ∀ k, k < 4 → -1000000 ≤ s k ∧ s k ≤ 1000000) (hb' : ∀ k, k < 4 → -1000000 ≤ e k ∧ e k ≤ 1000000) (hs : ∀ k, k < 4 → a 22 k = Int32.ofInt (s k)) (he : ∀ k, k < 4 → a 23 k = Int32.ofInt (e k)) : m_Turtles_draw n g i a (nI dir) col = some (i, updA a 21 (aDraw s e dir col (a 21)), nI 0) := by
  unfold m_Turtles_draw
  rcases Classical.em (2 ≤ dir ∧ dir ≤ 4) with h | h
  · rw [if_neg (show ¬ nI dir < (2 : Int32) from nI_nlt (b := 2) h.1 (by omega)), if_neg (show ¬ (4 : Int32) < nI dir from nI_nlt (a := 4) h.2 (by decide))]
    unfold m_Turtles_draw_b15
    rw [if_neg (by decide)]
    exact h_b25 (byc := true) hn hdir (decide_eq_true h).symm hb hb' hs he
  · have h14 : m_Turtles_draw_b14 n g i a (nI dir) col = some (i, updA a 21 (aDraw s e dir col (a 21)), nI 0) := by
      unfold m_Turtles_draw_b14 m_Turtles_draw_b15
      rw [if_pos rfl]
      exact h_b25 (byc := false) hn hdir (decide_eq_false h).symm hb hb' hs he
    rw [h14]
    split
    · rfl
    · split
      · rfl
      · next h1 h2 =>
        exfalso
        apply h
        constructor
        · rcases Nat.lt_or_ge dir 2 with h9 | h9
          · exact absurd (nI_lt (b := 2) h9 (by decide)) h1
          · exact h9
        · rcases Nat.lt_or_ge 4 dir with h9 | h9
          · exact absurd (nI_lt (a := 4) h9 (by omega)) h2
          · exact h9
theorem aDots_cong (col : Int32) (f : Int → Int) (byc : Bool) : ∀ (k : Nat) (v : Int) (d d' : Nat → Int32), (∀ x, x < 4096 → d x = d' x) → ∀ x, x < 4096 → aDots col f byc k v d x = aDots col f byc k v d' x := by
  intro k
  induction k with
  | zero => intro v d d' h; exact h
  | succ k ih =>
    intro v d d' h
    rw [aDots, aDots]
    apply ih
    intro x hx
    split
    · unfold upd
      rw [h x hx]
    · exact h x hx
theorem TK_no {n : Nat} {g : Nat → Nat} {i : Nat → Int32} {T : Nat} {N : LN} {F : List Fr} {L : List Lv} {i' : Nat → Int32} {a' : Nat → Nat → Int32} {G' : GS} {o : Option ((Nat → Int32) × (Nat → Nat → Int32) × Int32)} (hn : 200 ≤ n) (ho : o = some (i', a', -nI 2147483648)) (hc : CI g i' a' T G' N F L) (hl9 : lvOk F L (nMade N)) (h44 : i 44 = nI 0) (h43 : i 43 = nI (lvVals L)) (hi : ∀ q, q ≠ 17 → i' q = i q) : TK n g T o (G', N, F, L, 1, none, none) := TK_gv (r := .ok none) (x := -nI 2147483648) ho hn hc hl9 (by rw [hi 44 (by decide)]; exact h44) (by rw [hi 43 (by decide)]; exact h43) rfl trivial
theorem aSteps_b (d k : Nat) : -1 ≤ aSteps d k ∧ aSteps d k ≤ 2 := by
  unfold aSteps
  have h : ∀ x ∈ ([0, 0, 2, 0, 1, 0, 0, 1, 0, 1, 1, 0, 2, 0, 0, 0, 0, 1, -1, 0, 1, 0, 0, -1] : List Int), -1 ≤ x ∧ x ≤ 2 := by decide
  rw [List.getD_eq_getElem?_getD]
  cases e : ([0, 0, 2, 0, 1, 0, 0, 1, 0, 1, 1, 0, 2, 0, 0, 0, 0, 1, -1, 0, 1, 0, 0, -1] : List Int)[4 * d + k]? with
  | none => exact ⟨by decide, by decide⟩
  | some x => exact h x (List.mem_of_getElem? e)
theorem tm_b {t : Int} (ht : -1000 ≤ t ∧ t ≤ 1000) (d k : Nat) : -2000 ≤ t * aSteps d k ∧ t * aSteps d k ≤ 2000 := by
  have h := aSteps_b d k
  rcases (by omega : aSteps d k = -1 ∨ aSteps d k = 0 ∨ aSteps d k = 1 ∨ aSteps d k = 2) with e | e | e | e <;> rw [e] <;> omega
theorem st_3 : ∀ d, d < 6 → ∀ k, k < 4 → tw_st 3 (d * 4 + k) = Int32.ofInt (aSteps d k) := by decide
theorem gP_set4 (g : GS) (f : Nat → Int) (q : Nat) : gParts (set4 g f) q = if 7 * gTold g ≤ q ∧ q < 7 * gTold g + 4 then Int32.ofInt (f (q - 7 * gTold g)) else gParts g q := by
  show upd (upd (upd (upd (gParts g) (7 * gTold g + 0) (Int32.ofInt (f 0))) (7 * gTold g + 1) (Int32.ofInt (f 1))) (7 * gTold g + 2) (Int32.ofInt (f 2))) (7 * gTold g + 3) (Int32.ofInt (f 3)) q = _
  unfold upd
  rcases Classical.em (7 * gTold g ≤ q ∧ q < 7 * gTold g + 4) with h | h
  · rw [if_pos h]
    rcases (by omega : q = 7 * gTold g + 0 ∨ q = 7 * gTold g + 1 ∨ q = 7 * gTold g + 2 ∨ q = 7 * gTold g + 3) with e | e | e | e
    · rw [if_neg (by omega), if_neg (by omega), if_neg (by omega), if_pos e, e, Nat.add_sub_cancel_left]
    · rw [if_neg (by omega), if_neg (by omega), if_pos e, e, Nat.add_sub_cancel_left]
    · rw [if_neg (by omega), if_pos e, e, Nat.add_sub_cancel_left]
    · rw [if_pos e, e, Nat.add_sub_cancel_left]
  · rw [if_neg h, if_neg (by omega), if_neg (by omega), if_neg (by omega), if_neg (by omega)]
theorem h_b72 {n : Nat} {g : Nat → Nat} {i : Nat → Int32} {a : Nat → Nat → Int32} {T : Nat} {G : GS} {N : LN} {F : List Fr} {L : List Lv} {t d : Nat} {tm : Int} {C : Cfg} (hn : 1000 ≤ n) (hc : CI g i a T G N F L) (hl9 : lvOk F L (nMade N)) (h44 : i 44 = nI 0) (h43 : i 43 = nI (lvVals L)) (hg : gOk G) (ht : t = gTold G) (hd : d < 6) (htm : -1000 ≤ tm ∧ tm ≤ 1000) (hfar : ∀ j, j < 4 → aFar (pI G t j + tm * aSteps d j) = true → C = aFail 7 G N F L) (hok : (∀ j, j < 4 → aFar (pI G t j + tm * aSteps d j) = false) → C = (set4 (if pI G t 6 = 1 then gSetDots G (aDraw (fun k => pI G t k) (fun k => pI G t k + tm * aSteps d k) d (gParts G (7 * t + 5)) (gDots G)) else G) (fun k => pI G t k + tm * aSteps d k), N, F, L, 1, none, none)) : ∀ (m k f : Nat) (A : Nat → Nat → Int32), k + m = 4 → m < f → (∀ q, q ≠ 22 → q ≠ 23 → A q = a q) → (∀ j, j < k → A 22 j = Int32.ofInt (pI G t j) ∧ A 23 j = Int32.ofInt (pI G t j + tm * aSteps d j) ∧ aFar (pI G t j + tm * aSteps d j) = false) → TK n g T (m_Turtles_forward_b72 n g f i A (nI (7 * t)) (nI d) (Int32.ofInt tm) (nI k)) C := by
  have hc0 := hc
  obtain ⟨_, ⟨_, _, b3, b4, b5, _⟩, _⟩ := hc
  have ht8 : t < 8 := by rw [ht]; exact hg.1
  obtain ⟨p1, p2, p3, p4, p5, p6⟩ := hg.2.2.2.2.1 t ht8
  intro m
  induction m with
  | zero =>
    intro k f A hk hf hA hj
    obtain rfl : k = 4 := by omega
    match f, hf with
    | f + 1, _ =>
      have hs : ∀ k, k < 4 → A 22 k = Int32.ofInt (pI G t k) := fun k hk => (hj k hk).1
      have he : ∀ k, k < 4 → A 23 k = Int32.ofInt (pI G t k + tm * aSteps d k) := fun k hk => (hj k hk).2.1
      have hfb : ∀ k, k < 4 → -1000000 ≤ pI G t k + tm * aSteps d k ∧ pI G t k + tm * aSteps d k ≤ 1000000 := by
        intro k hk
        have := (hj k hk).2.2
        unfold aFar at this
        have := of_decide_eq_false this
        omega
      have C0 := hok (fun j hj' => (hj j hj').2.2)
      have e20 : A 20 = a 20 := hA 20 (by decide) (by decide)
      have e21 : A 21 = a 21 := hA 21 (by decide) (by decide)
      have q6 : A 20 (7 * t + 6) = Int32.ofInt (pI G t 6) := by rw [e20, b3 _ (by omega), pI_of]
      have q5 : A 20 (7 * t + 5) = gParts G (7 * t + 5) := by rw [e20, b3 _ (by omega)]
      rw [m_Turtles_forward_b72, if_pos (show (4 : Int32) ≤ nI 4 from by decide), show nI (7 * t) + (6 : Int32) = nI (7 * t + 6) from nI_add _ 6, ck_n (by omega), cl_n (by omega), q6]
      have copy : ∀ (A' : Nat → Nat → Int32), A' 20 = A 20 → A' 23 = A 23 → m_Turtles_forward_b183 n g i A' (nI (7 * t)) = some (i, updA A' 20 (fun q => if 7 * t ≤ q ∧ q < 7 * t + 4 then A 23 (q - 7 * t) else A 20 q), -nI 2147483648) := by
        intro A' h20 h23
        unfold m_Turtles_forward_b183 cy
        rw [if_neg (by rw [cl_n (by omega)]; intro e9; rcases e9 with e9 | e9 | e9 | e9 | e9
                       · exact absurd e9 (by decide)
                       · exact absurd e9 (nI_nlt (b := 0) (by omega) (by omega))
                       · exact absurd e9 (by decide)
                       · exact absurd e9 (by decide)
                       · have : (4 : Int32).toNatClampNeg = 4 := by decide
                         omega), ob1_s, h20, h23, cl_n (by omega)]
        have ef : (va_cpy (A 23) (A 20) (0 : Int32).toNatClampNeg (7 * t) (4 : Int32).toNatClampNeg) = (fun q => if 7 * t ≤ q ∧ q < 7 * t + 4 then A 23 (q - 7 * t) else A 20 q) := by
          funext q
          show (if 7 * t ≤ q ∧ q < 7 * t + 4 then A 23 (0 + (q - 7 * t)) else A 20 q) = _
          rw [Nat.zero_add]
        rw [ef]
        rfl
      have parts : ∀ (G2 : GS), gTold G2 = t → gParts G2 = gParts G → ∀ q, q < 56 → (fun q => if 7 * t ≤ q ∧ q < 7 * t + 4 then A 23 (q - 7 * t) else A 20 q) q = gParts (set4 G2 (fun k => pI G t k + tm * aSteps d k)) q := by
        intro G2 h1 h2 q hq
        rw [gP_set4, h1, h2]
        show (if 7 * t ≤ q ∧ q < 7 * t + 4 then A 23 (q - 7 * t) else A 20 q) = _
        rcases Classical.em (7 * t ≤ q ∧ q < 7 * t + 4) with h9 | h9
        · rw [if_pos h9, if_pos h9, he _ (by omega)]
        · rw [if_neg h9, if_neg h9, e20, b3 q hq]
      rw [C0]
      rcases Classical.em (pI G t 6 = 1) with h6 | h6
      · rw [if_pos (show Int32.ofInt (pI G t 6) = (1 : Int32) by rw [h6]; rfl), if_pos h6, show nI (7 * t) + (5 : Int32) = nI (7 * t + 5) from nI_add _ 5, ck_n (by omega), cl_n (by omega), q5, h_draw (s := fun k => pI G t k) (e := fun k => pI G t k + tm * aSteps d k) (by omega) hd p1 hfb hs he, ob_s, copy _ (updA_ne (by decide)) (updA_ne (by decide))]
        refine TK_no (i := i) (by omega) rfl ?_ hl9 h44 h43 (fun _ _ => rfl)
        refine CI_tur hc0 ?_ (fun _ _ => rfl) ?_ ?_ b5 rfl rfl rfl rfl rfl
        · intro q h1 h2 h3 h4
          rw [updA_ne h1, updA_ne h2]
          exact hA q h3 h4
        · rw [updA_at]
          exact parts _ ht.symm rfl
        · intro q hq
          rw [updA_ne (by decide), updA_at, e21]
          exact aDots_cong _ _ _ _ _ _ _ b4 q hq
      · rw [if_neg (show ¬ Int32.ofInt (pI G t 6) = (1 : Int32) from fun e9 => h6 ((I_eq (by omega) (by omega)).mp (show Int32.ofInt (pI G t 6) = Int32.ofInt 1 from e9))), if_neg h6, copy A rfl rfl]
        refine TK_no (i := i) (by omega) rfl ?_ hl9 h44 h43 (fun _ _ => rfl)
        refine CI_tur hc0 ?_ (fun _ _ => rfl) ?_ ?_ b5 rfl rfl rfl rfl rfl
        · intro q h1 h2 h3 h4
          rw [updA_ne h1]
          exact hA q h3 h4
        · rw [updA_at]
          exact parts _ ht.symm rfl
        · intro q hq
          rw [updA_ne (by decide), e21]
          exact b4 q hq
  | succ m ih =>
    intro k f A hk hf hA hj
    match f, hf with
    | f + 1, hf =>
      have w : ∀ x, x < 4 → ∀ (α : Type) (o : Option α), ck (nI x) 4 o = o := fun x hx α o => ck_n ⟨hx, by decide⟩
      have e20 : A 20 = a 20 := hA 20 (by decide) (by decide)
      have hpk := p1 k (by omega)
      have htk := tm_b htm d k
      have q0 : A 20 (7 * t + k) = Int32.ofInt (pI G t k) := by rw [e20, b3 _ (by omega), pI_of]
      have hm : nI d * (4 : Int32) + nI k = nI (d * 4 + k) := by
        rw [show (4 : Int32) = nI 4 from rfl, pk_mul, nI_add]
      rw [m_Turtles_forward_b72, if_neg (show ¬ (4 : Int32) ≤ nI k from nI_ge (a := k) (b := 4) (by omega) (by decide)), nI_add, ck_n (by omega), w k (by omega), ob1_s, cl_n (by omega), cl_n (by omega), w k (by omega), hm, ck_n (by omega), w k (by omega), ob1_s, cl_n (by omega), q0, st_3 d hd k (by omega), w k (by omega), w k (by omega)]
      have a22 : (sv A 22 k (Int32.ofInt (pI G t k))) 22 k = Int32.ofInt (pI G t k) := by
        show upd (A 22) k _ k = _
        rw [upd_at]
      rw [a22, ← Int32.ofInt_mul, ← Int32.ofInt_add]
      have a23 : (sv (sv A 22 k (Int32.ofInt (pI G t k))) 23 k (Int32.ofInt (pI G t k + tm * aSteps d k))) 23 k = Int32.ofInt (pI G t k + tm * aSteps d k) := by
        show upd (A 23) k _ k = _
        rw [upd_at]
      rw [a23]
      have A9 : ∀ q, q ≠ 22 → q ≠ 23 → (sv (sv A 22 k (Int32.ofInt (pI G t k))) 23 k (Int32.ofInt (pI G t k + tm * aSteps d k))) q = a q := by
        intro q h1 h2
        show updA (updA A 22 _) 23 _ q = _
        rw [updA_ne h2, updA_ne h1]
        exact hA q h1 h2
      have ferr : aFar (pI G t k + tm * aSteps d k) = true → TK n g T (some (i, sv (sv A 22 k (Int32.ofInt (pI G t k))) 23 k (Int32.ofInt (pI G t k + tm * aSteps d k)), -2147483641)) C := by
        intro h9
        rw [hfar k (by omega) h9]
        refine TK_er (e := 7) (i := i) rfl (by omega) ?_ hl9 h44 (by decide) (by decide)
        refine CI_tur hc0 (fun q _ _ h3 h4 => A9 q h3 h4) (fun _ _ => rfl) ?_ ?_ b5 rfl rfl rfl rfl rfl
        · rw [A9 20 (by decide) (by decide)]; exact b3
        · rw [A9 21 (by decide) (by decide)]; exact b4
      rcases Classical.em (pI G t k + tm * aSteps d k < -1000000) with h1 | h1
      · rw [if_pos (show Int32.ofInt (pI G t k + tm * aSteps d k) < (-1000000 : Int32) from (I_lt (y := -1000000) (by omega) (by omega)).mpr h1)]
        exact ferr (decide_eq_true (Or.inl h1))
      · rw [if_neg (show ¬ Int32.ofInt (pI G t k + tm * aSteps d k) < (-1000000 : Int32) from fun e9 => h1 ((I_lt (y := -1000000) (by omega) (by omega)).mp e9))]
        rcases Classical.em (1000000 < pI G t k + tm * aSteps d k) with h2 | h2
        · rw [if_neg (show ¬ Int32.ofInt (pI G t k + tm * aSteps d k) ≤ (1000000 : Int32) from fun e9 => by have := (I_le (y := 1000000) (by omega) (by omega)).mp e9; omega)]
          exact ferr (decide_eq_true (Or.inr h2))
        · rw [if_pos (show Int32.ofInt (pI G t k + tm * aSteps d k) ≤ (1000000 : Int32) from (I_le (y := 1000000) (by omega) (by omega)).mpr (by omega)), ob1_s, show nI k + (1 : Int32) = nI (k + 1) from nI_add k 1]
          refine ih (k + 1) f _ (by omega) (by omega) A9 ?_
          intro j hj9
          rcases Classical.em (j = k) with e9 | e9
          · subst e9
            exact ⟨by show upd (A 22) j _ j = _; rw [upd_at], by show upd (A 23) j _ j = _; rw [upd_at], decide_eq_false (by omega)⟩
          · have := hj j (by omega)
            exact ⟨by show upd (A 22) k _ j = _; rw [upd_ne e9]; exact this.1, by show upd (A 23) k _ j = _; rw [upd_ne e9]; exact this.2.1, this.2.2⟩

