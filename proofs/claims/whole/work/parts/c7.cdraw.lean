/-! the turtles' parts, and lines that are drawn -/
theorem CI_tur {g : Nat → Nat} {i i' : Nat → Int32} {a a' : Nat → Nat → Int32} {T : Nat} {G G' : GS} {N : LN} {F : List Fr} {L : List Lv} (h : CI g i a T G N F L) (ha : ∀ q, q ≠ 20 → q ≠ 21 → q ≠ 22 → q ≠ 23 → a' q = a q) (hi : ∀ q, q ≠ 17 → i' q = i q) (hp : ∀ k, k < 56 → a' 20 k = gParts G' k) (hd : ∀ k, k < 4096 → a' 21 k = gDots G' k) (ht : i' 17 = nI (gTold G')) (h1 : gProcs G' = gProcs G) (h2 : gGlob G' = gGlob G) (h3 : gOut G' = gOut G) (h4 : gSeed G' = gSeed G) (h5 : gKept G' = gKept G) : CI g i' a' T G' N F L := by
  obtain ⟨⟨a1, a2, a3, a4, a5, a6, a7, a8, a9⟩, ⟨b1, b2, b3, b4, b5, b6, b7⟩, c1, d1, e1⟩ := h
  have ei : i' = upd i 17 (nI (gTold G')) := by
    funext q
    unfold upd
    by_cases e : q = 17
    · rw [if_pos e, e, ht]
    · rw [if_neg e, hi q e]
  subst ei
  obtain ⟨p, ep⟩ : ∃ p, a' 20 = p := ⟨_, rfl⟩
  obtain ⟨d, ed⟩ : ∃ p, a' 21 = p := ⟨_, rfl⟩
  obtain ⟨s, es⟩ : ∃ p, a' 22 = p := ⟨_, rfl⟩
  obtain ⟨e, ee⟩ : ∃ p, a' 23 = p := ⟨_, rfl⟩
  have ea : a' = updA (updA (updA (updA a 20 p) 21 d) 22 s) 23 e := by
    funext q
    unfold updA
    by_cases e1 : q = 23
    · rw [if_pos e1, e1, ee]
    rw [if_neg e1]
    by_cases e2 : q = 22
    · rw [if_pos e2, e2, es]
    rw [if_neg e2]
    by_cases e3 : q = 21
    · rw [if_pos e3, e3, ed]
    rw [if_neg e3]
    by_cases e4 : q = 20
    · rw [if_pos e4, e4, ep]
    rw [if_neg e4]
    exact ha q e4 e3 e2 e1
  rw [ep] at hp
  rw [ed] at hd
  subst ea
  exact ⟨⟨a1, a2, a3, a4, a5, a6, a7, a8, a9⟩, ⟨by rw [h2]; exact b1, by rw [h1]; exact b2, hp, hd, rfl, by rw [h3]; exact b6, by rw [h4]; exact b7.1, by unfold kEx; rw [h5, h2, h1]; exact b7.2⟩, c1, d1, e1⟩
theorem pI_of (G : GS) (t k : Nat) : gParts G (7 * t + k) = Int32.ofInt (pI G t k) := (Int32.ofInt_toInt _).symm
theorem h_part {n : Nat} {g : Nat → Nat} {i : Nat → Int32} {a : Nat → Nat → Int32} {T : Nat} {G : GS} {N : LN} {F : List Fr} {L : List Lv} {t k : Nat} (h : CI g i a T G N F L) (ht : t < 8) (hk : k < 7) : m_Turtles_part n g i a (nI t) (nI k) = some (Int32.ofInt (pI G t k)) := by
  obtain ⟨_, ⟨_, _, b3, _⟩, _⟩ := h
  unfold m_Turtles_part m_Turtles_exists
  have hm : nI t * nI 7 = nI (t * 7) := pk_mul _ _
  simp (disch := omega) only [ob_s, ob0_s, ob1_s, i32_lit, ile_p, ile_n, ilt_p, ilt_n, ieq_p, ieq_n, ck_n, cl_n, sub_n, nI_add, sh_w, sh_l, an3_w, an3_l, an1_w, an1_l, hN_1, hN_3w, hN_3l, if_true, if_false, hm]
  rw [b3 _ (by omega), Nat.mul_comm, pI_of]
theorem h_setPart {n : Nat} {g : Nat → Nat} {i : Nat → Int32} {a : Nat → Nat → Int32} {T : Nat} {G : GS} {N : LN} {F : List Fr} {L : List Lv} {k : Nat} {v : Int} (h : CI g i a T G N F L) (ht : gTold G < 8) (hk : k < 7) : ∃ a', m_Turtles_setPart n g i a (nI k) (Int32.ofInt v) = some (i, a', nI 0) ∧ CI g i a' T (setP G k v) N F L := by
  have hc := h
  obtain ⟨_, ⟨_, _, b3, b4, b5, _⟩, _⟩ := h
  refine ⟨sv a 20 (7 * gTold G + k) (Int32.ofInt v), ?_, ?_⟩
  · unfold m_Turtles_setPart m_Turtles_exists
    have hm : nI (gTold G) * nI 7 = nI (7 * gTold G) := by rw [pk_mul, Nat.mul_comm]
    rw [b5]
    simp (disch := omega) only [ob_s, ob0_s, ob1_s, i32_lit, ile_p, ile_n, ilt_p, ilt_n, ieq_p, ieq_n, ck_n, cl_n, sub_n, nI_add, sh_w, sh_l, an3_w, an3_l, an1_w, an1_l, hN_1, hN_3w, hN_3l, if_true, if_false, hm]
  · refine CI_tur hc (fun q h1 _ _ _ => updA_ne h1) (fun _ _ => rfl) ?_ b4 b5 rfl rfl rfl rfl rfl
    intro q hq
    show upd (a 20) (7 * gTold G + k) (Int32.ofInt v) q = upd (gParts G) (7 * gTold G + k) (Int32.ofInt v) q
    unfold upd
    split
    · rfl
    · exact b3 q hq
theorem h_dotAt {n : Nat} {x y : Int} (hx : -32 ≤ x ∧ x < 32) (hy : -32 ≤ y ∧ y < 32) : m_Turtles_dotAt n (Int32.ofInt x) (Int32.ofInt y) = some (nI ((y + 32) * 64 + x + 32).toNat) := by
  unfold m_Turtles_dotAt
  have e : (Int32.ofInt y + 32) * 64 + Int32.ofInt x + 32 = nI ((y + 32) * 64 + x + 32).toNat := by
    rw [nI_ofInt, Int.toNat_of_nonneg (by omega), Int32.ofInt_add, Int32.ofInt_add, Int32.ofInt_mul, Int32.ofInt_add]
    rfl
  rw [e, pk_andN (by omega) 12 (by decide), Nat.mod_eq_of_lt (by omega)]
theorem h_cross {n : Nat} {g : Nat → Nat} {i : Nat → Int32} {a : Nat → Nat → Int32} {s : Nat → Int} {ld : Nat} {sl v : Int} (hld : ld = 0 ∨ ld = 2) (hs : ∀ k, k < 4 → a 22 k = Int32.ofInt (s k)) (hb : ∀ k, k < 4 → -1000000 ≤ s k ∧ s k ≤ 1000000) (hsl : sl = 0 ∨ sl = 1 ∨ sl = -1) (hv : -100 ≤ v ∧ v ≤ 100) : m_Turtles_crossing n g i a (nI ld) (Int32.ofInt sl) (Int32.ofInt v) = some (Int64.ofInt ((3 * (s (2 - ld) - sl * s (ld + 1)) + 3 + fl3 (3 * s (2 - ld + 1) + sl * (2 * v - s ld))) / 6)) := by
  have key : ∀ p q r t : Int, -1000000 ≤ p ∧ p ≤ 1000000 → -1000000 ≤ q ∧ q ≤ 1000000 → -1000000 ≤ r ∧ r ≤ 1000000 → -1000000 ≤ t ∧ t ≤ 1000000 → ob0 (m_Turtles_floorRoot n ((3 * (Int32.ofInt r).toInt64) + ((Int32.ofInt sl).toInt64 * ((2 * (Int32.ofInt v).toInt64) - (Int32.ofInt t).toInt64)))) (fun r_9 => ob0 (m_Math_floorDiv n (((3 * ((Int32.ofInt p - (Int32.ofInt sl * Int32.ofInt q)).toInt64)) + 3) + r_9) (6 : Int64)) (fun r_11 => some r_11)) = some (Int64.ofInt ((3 * (p - sl * q) + 3 + fl3 (3 * r + sl * (2 * v - t))) / 6)) := by
    intro p q r t hp hq hr ht
    have e1 : -2000000 ≤ p - sl * q ∧ p - sl * q ≤ 2000000 := by rcases hsl with rfl | rfl | rfl <;> omega
    have e2 : -10000000 ≤ 3 * r + sl * (2 * v - t) ∧ 3 * r + sl * (2 * v - t) ≤ 10000000 := by rcases hsl with rfl | rfl | rfl <;> omega
    have hf := fl3_b e2
    rw [← Int32.ofInt_mul, ← Int32.ofInt_sub, i32_64 (x := r) (by omega) (by omega), i32_64 (x := sl) (by omega) (by omega), i32_64 (x := v) (by omega) (by omega), i32_64 (x := t) (by omega) (by omega), i32_64 (by omega) (by omega), show (3 : Int64) = Int64.ofInt 3 from rfl, show (2 : Int64) = Int64.ofInt 2 from rfl, show (6 : Int64) = Int64.ofInt 6 from rfl, ← Int64.ofInt_mul, ← Int64.ofInt_mul, ← Int64.ofInt_sub, ← Int64.ofInt_mul, ← Int64.ofInt_add, h_root (by omega), ob0_s, ← Int64.ofInt_mul, ← Int64.ofInt_add, ← Int64.ofInt_add, h_floorDiv (by omega) (Or.inr rfl), ob0_s]
  unfold m_Turtles_crossing
  have w : ∀ x, x < 4 → ∀ (α : Type) (o : Option α), ck (nI x) 4 o = o := fun x hx α o => ck_n ⟨hx, by decide⟩
  rcases hld with rfl | rfl
  · rw [show (2 : Int32) - nI 0 = nI 2 by decide, ob1_s, w 2 (by decide), show nI 0 + (1 : Int32) = nI 1 by decide, w 1 (by decide), ob1_s, show nI 2 + (1 : Int32) = nI 3 by decide, w 3 (by decide), w 0 (by decide), ob1_s, cl_n (by decide), cl_n (by decide), cl_n (by decide), cl_n (by decide), hs 2 (by decide), hs 1 (by decide), hs 3 (by decide), hs 0 (by decide)]
    exact key _ _ _ _ (hb 2 (by decide)) (hb 1 (by decide)) (hb 3 (by decide)) (hb 0 (by decide))
  · rw [show (2 : Int32) - nI 2 = nI 0 by decide, ob1_s, w 0 (by decide), show nI 2 + (1 : Int32) = nI 3 by decide, w 3 (by decide), ob1_s, show nI 0 + (1 : Int32) = nI 1 by decide, w 1 (by decide), w 2 (by decide), ob1_s, cl_n (by decide), cl_n (by decide), cl_n (by decide), cl_n (by decide), hs 0 (by decide), hs 3 (by decide), hs 1 (by decide), hs 2 (by decide)]
    exact key _ _ _ _ (hb 0 (by decide)) (hb 3 (by decide)) (hb 1 (by decide)) (hb 2 (by decide))
theorem aSlope_3 (d : Nat) : aSlope d = 0 ∨ aSlope d = 1 ∨ aSlope d = -1 := by
  unfold aSlope
  match d with
  | 0 | 1 | 2 | 3 | 4 | 5 => decide
  | k + 6 => left; simp
theorem aSide_b (p q v : Int) : -1 ≤ aSide p q v ∧ aSide p q v ≤ 1 := by
  unfold aSide
  split
  · split
    · decide
    · split <;> decide
  · split <;> decide


theorem h_b283 {n : Nat} {g : Nat → Nat} {rc : (Nat → Int32) → (Nat → Nat → Int32) → Int32 → Int32 → Int32 → Int32 → Int32 → Int32 → Int32 → Option ((Nat → Int32) × (Nat → Nat → Int32) × Int32)} {i : Nat → Int32} {a : Nat → Nat → Int32} {v1 col v4 v5 v10 : Int32} {byc : Bool} {v z : Int} (hv : -32 ≤ v ∧ v < 32) (hz : -100000000 ≤ z ∧ z ≤ 100000000) : m_Turtles_draw_b283 n g rc i a v1 col (b1 byc) v4 v5 v10 (Int32.ofInt v) (Int64.ofInt z) = rc i (updA a 21 (if -32 ≤ z ∧ z < 32 then upd (a 21) (if byc then ((z + 32) * 64 + v + 32).toNat else ((v + 32) * 64 + z + 32).toNat) col else a 21)) v1 col (b1 byc) v4 v5 v10 (Int32.ofInt (v + 1)) := by
  have e1 : Int32.ofInt v + 1 = Int32.ofInt (v + 1) := by rw [Int32.ofInt_add]; rfl
  unfold m_Turtles_draw_b283
  rw [show (-32 : Int64) = Int64.ofInt (-32) from by decide, show (32 : Int64) = Int64.ofInt 32 from rfl]
  rcases Classical.em (z < -32) with h1 | h1
  · rw [if_pos ((lg_lt (by omega) (by omega)).mpr h1), if_neg (show ¬ (-32 ≤ z ∧ z < 32) by omega), updA_self]
    unfold m_Turtles_draw_b333
    rw [ob1_s, e1]
  · rw [if_neg (fun e => h1 ((lg_lt (by omega) (by omega)).mp e))]
    rcases Classical.em (32 ≤ z) with h2 | h2
    · rw [if_pos ((lg_ge (by omega) (by omega)).mpr h2), if_neg (show ¬ (-32 ≤ z ∧ z < 32) by omega), updA_self]
      unfold m_Turtles_draw_b333
      rw [ob1_s, e1]
    · rw [if_neg (fun e => h2 ((lg_ge (by omega) (by omega)).mp e)), if_pos (show -32 ≤ z ∧ z < 32 by omega), Int64.toInt32_ofInt]
      cases byc with
      | false =>
        rw [b1_f, if_pos (show nI 0 = (0 : Int32) from rfl), h_dotAt (by omega) (by omega), ob0_s]
        unfold m_Turtles_draw_b331 m_Turtles_draw_b333
        rw [ck_n (by omega), cl_n (by omega), ob1_s, ob1_s, e1]
        rfl
      | true =>
        rw [b1_t, if_neg (by decide), h_dotAt (by omega) (by omega), ob0_s]
        unfold m_Turtles_draw_b331 m_Turtles_draw_b333
        rw [ck_n (by omega), cl_n (by omega), ob1_s, ob1_s, e1]
        rfl
theorem h_b173 {n : Nat} {g : Nat → Nat} {i : Nat → Int32} {s e : Nat → Int} {ld dir : Nat} {col : Int32} {byc : Bool} {b : Int} (hld : ld = 0 ∨ ld = 2) (hdir : dir < 6) (hb : ∀ k, k < 4 → -1000000 ≤ s k ∧ s k ≤ 1000000) (hb' : ∀ k, k < 4 → -1000000 ≤ e k ∧ e k ≤ 1000000) (hbb : b ≤ 31) (hb2 : -100000000 ≤ b) : ∀ (k f : Nat) (v : Int) (a : Nat → Nat → Int32), k < f → (∀ k, k < 4 → a 22 k = Int32.ofInt (s k)) → (∀ k, k < 4 → a 23 k = Int32.ofInt (e k)) → -32 ≤ v → v ≤ 100000000 → k = (b + 1 - v).toNat → m_Turtles_draw_b173 n g f i a (nI dir) col (b1 byc) (nI ld) (nI (2 - ld)) (Int32.ofInt b) (Int32.ofInt v) = some (i, updA a 21 (aDots col (aAcross s e s ld (2 - ld) (aSlope dir)) byc k v (a 21)), nI 0) := by
  intro k
  induction k with
  | zero =>
    intro f v a hf hs he hv hv2 hk
    match f, hf with
    | f + 1, _ =>
      rw [m_Turtles_draw_b173, if_pos ((I_lt (by omega) (by omega)).mpr (by omega))]
      show _ = some (i, updA a 21 (a 21), nI 0)
      rw [updA_self]
      rfl
  | succ k ih =>
    intro f v a hf hs he hv hv2 hk
    match f, hf with
    | f + 1, hf =>
      have w : ∀ x, x < 4 → ∀ (α : Type) (o : Option α), ck (nI x) 4 o = o := fun x hx α o => ck_n ⟨hx, by decide⟩
      have hlb := hb ld (by omega)
      have hlb1 := hb (ld + 1) (by omega)
      have hlc := hb' ld (by omega)
      have hlc1 := hb' (ld + 1) (by omega)
      have hfb := hb (2 - ld) (by omega)
      have hfb1 := hb (2 - ld + 1) (by omega)
      have hfc := hb' (2 - ld) (by omega)
      have hfc1 := hb' (2 - ld + 1) (by omega)
      have go : ∀ z : Int, -100000000 ≤ z ∧ z ≤ 100000000 → z = aAcross s e s ld (2 - ld) (aSlope dir) v → m_Turtles_draw_b283 n g (m_Turtles_draw_b173 n g f) i a (nI dir) col (b1 byc) (nI ld) (nI (2 - ld)) (Int32.ofInt b) (Int32.ofInt v) (Int64.ofInt z) = some (i, updA a 21 (aDots col (aAcross s e s ld (2 - ld) (aSlope dir)) byc (k + 1) v (a 21)), nI 0) := by
        intro z hz ez
        rw [h_b283 (by omega) hz, ih f (v + 1) _ (by omega) (by rw [updA_ne (by decide)]; exact hs) (by rw [updA_ne (by decide)]; exact he) (by omega) (by omega) (by omega), updA_updA, updA_at, ez]
        rfl
      have hsd1 := aSide_b (e ld) (e (ld + 1)) v
      have hsd2 := aSide_b (s ld) (s (ld + 1)) v
      rw [m_Turtles_draw_b173, if_neg (fun e9 => by have := (I_lt (by omega) (by omega)).mp e9; omega), w ld (by omega), show nI ld + (1 : Int32) = nI (ld + 1) from nI_add ld 1, w (ld + 1) (by omega), cl_n (by omega), cl_n (by omega), he ld (by omega), he (ld + 1) (by omega), h_sideOf (by omega) (by omega) (by omega), ob0_s]
      rcases Classical.em (0 < aSide (e ld) (e (ld + 1)) v) with h1 | h1
      · have ez : flH (e (2 - ld) + 1) (e (2 - ld + 1)) = aAcross s e s ld (2 - ld) (aSlope dir) v := by
          unfold aAcross
          rw [if_pos h1]
        have hzb := flH_b (p := e (2 - ld) + 1) (q := e (2 - ld + 1)) (M := 1000001) (by omega) (by omega) (by decide)
        rw [if_neg (by rw [show (0 : Int32) = Int32.ofInt 0 from rfl, I_le (by omega) (by omega)]; omega), w (2 - ld) (by omega), show nI (2 - ld) + (1 : Int32) = nI (2 - ld + 1) from nI_add (2 - ld) 1, w (2 - ld + 1) (by omega), cl_n (by omega), cl_n (by omega), he (2 - ld) (by omega), he (2 - ld + 1) (by omega), show Int32.ofInt (e (2 - ld)) + (1 : Int32) = Int32.ofInt (e (2 - ld) + 1) by rw [Int32.ofInt_add]; rfl, i32_64 (by omega) (by omega), i32_64 (by omega) (by omega), h_half (by omega) (by omega), ob0_s]
        exact go _ (by omega) ez
      · rw [if_pos (by rw [show (0 : Int32) = Int32.ofInt 0 from rfl, I_le (by omega) (by omega)]; omega), w ld (by omega), w (ld + 1) (by omega), hs ld (by omega), hs (ld + 1) (by omega), h_sideOf (by omega) (by omega) (by omega), ob0_s]
        rcases Classical.em (aSide (s ld) (s (ld + 1)) v < 0) with h2 | h2
        · have ez : flH (s (2 - ld) + 1) (s (2 - ld + 1)) = aAcross s e s ld (2 - ld) (aSlope dir) v := by
            unfold aAcross
            rw [if_neg h1, if_pos h2]
          have hzb := flH_b (p := s (2 - ld) + 1) (q := s (2 - ld + 1)) (M := 1000001) (by omega) (by omega) (by decide)
          rw [if_neg (by rw [show (0 : Int32) = Int32.ofInt 0 from rfl, I_le (by omega) (by omega)]; omega), w (2 - ld) (by omega), show nI (2 - ld) + (1 : Int32) = nI (2 - ld + 1) from nI_add (2 - ld) 1, w (2 - ld + 1) (by omega), cl_n (by omega), cl_n (by omega), hs (2 - ld) (by omega), hs (2 - ld + 1) (by omega), show Int32.ofInt (s (2 - ld)) + (1 : Int32) = Int32.ofInt (s (2 - ld) + 1) by rw [Int32.ofInt_add]; rfl, i32_64 (by omega) (by omega), i32_64 (by omega) (by omega), h_half (by omega) (by omega), ob0_s]
          exact go _ (by omega) ez
        · have hsl := aSlope_3 dir
          have et : tw_st 2 (nI dir).toNatClampNeg = Int32.ofInt (aSlope dir) := by
            rw [cl_n (by omega)]
            rcases (by omega : dir = 0 ∨ dir = 1 ∨ dir = 2 ∨ dir = 3 ∨ dir = 4 ∨ dir = 5) with rfl | rfl | rfl | rfl | rfl | rfl <;> rfl
          have ez : (3 * (s (2 - ld) - aSlope dir * s (ld + 1)) + 3 + fl3 (3 * s (2 - ld + 1) + aSlope dir * (2 * v - s ld))) / 6 = aAcross s e s ld (2 - ld) (aSlope dir) v := by
            unfold aAcross
            rw [if_neg h1, if_neg h2]
          have e2 : -10000000 ≤ 3 * s (2 - ld + 1) + aSlope dir * (2 * v - s ld) ∧ 3 * s (2 - ld + 1) + aSlope dir * (2 * v - s ld) ≤ 10000000 := by rcases hsl with e8 | e8 | e8 <;> rw [e8] <;> omega
          have e3 : -2000000 ≤ s (2 - ld) - aSlope dir * s (ld + 1) ∧ s (2 - ld) - aSlope dir * s (ld + 1) ≤ 2000000 := by rcases hsl with e8 | e8 | e8 <;> rw [e8] <;> omega
          have hf3 := fl3_b e2
          rw [if_pos (by rw [show (0 : Int32) = Int32.ofInt 0 from rfl, I_le (by omega) (by omega)]; omega), ck_n (by omega), et, h_cross hld hs hb hsl (by omega), ob0_s]
          exact go _ (by omega) ez


theorem h_b283c {n : Nat} {g : Nat → Nat} {rc : (Nat → Int32) → (Nat → Nat → Int32) → Int32 → Int32 → Int32 → Int32 → Int32 → Int32 → Int32 → Option ((Nat → Int32) × (Nat → Nat → Int32) × Int32)} {i : Nat → Int32} {a : Nat → Nat → Int32} {v1 col v4 v5 v10 : Int32} {byc : Bool} {v z : Int} (hv : -32 ≤ v ∧ v < 32) (hz : -100000000 ≤ z ∧ z ≤ 100000000) : m_Turtles_draw_b283c n g rc i a v1 col (b1 byc) v4 v5 v10 (Int32.ofInt v) (Int64.ofInt z) = rc i (updA a 21 (if -32 ≤ z ∧ z < 32 then upd (a 21) (if byc then ((z + 32) * 64 + v + 32).toNat else ((v + 32) * 64 + z + 32).toNat) col else a 21)) v1 col (b1 byc) v4 v5 v10 (Int32.ofInt (v + 1)) := by
  have e1 : Int32.ofInt v + 1 = Int32.ofInt (v + 1) := by rw [Int32.ofInt_add]; rfl
  unfold m_Turtles_draw_b283c
  rw [show (-32 : Int64) = Int64.ofInt (-32) from by decide, show (32 : Int64) = Int64.ofInt 32 from rfl]
  rcases Classical.em (z < -32) with h1 | h1
  · rw [if_pos ((lg_lt (by omega) (by omega)).mpr h1), if_neg (show ¬ (-32 ≤ z ∧ z < 32) by omega), updA_self]
    unfold m_Turtles_draw_b333c
    rw [ob1_s, e1]
  · rw [if_neg (fun e => h1 ((lg_lt (by omega) (by omega)).mp e))]
    rcases Classical.em (32 ≤ z) with h2 | h2
    · rw [if_pos ((lg_ge (by omega) (by omega)).mpr h2), if_neg (show ¬ (-32 ≤ z ∧ z < 32) by omega), updA_self]
      unfold m_Turtles_draw_b333c
      rw [ob1_s, e1]
    · rw [if_neg (fun e => h2 ((lg_ge (by omega) (by omega)).mp e)), if_pos (show -32 ≤ z ∧ z < 32 by omega), Int64.toInt32_ofInt]
      cases byc with
      | false =>
        rw [b1_f, if_pos (show nI 0 = (0 : Int32) from rfl), h_dotAt (by omega) (by omega), ob0_s]
        unfold m_Turtles_draw_b331c m_Turtles_draw_b333c
        rw [ck_n (by omega), cl_n (by omega), ob1_s, ob1_s, e1]
        rfl
      | true =>
        rw [b1_t, if_neg (by decide), h_dotAt (by omega) (by omega), ob0_s]
        unfold m_Turtles_draw_b331c m_Turtles_draw_b333c
        rw [ck_n (by omega), cl_n (by omega), ob1_s, ob1_s, e1]
        rfl
theorem h_b173c {n : Nat} {g : Nat → Nat} {i : Nat → Int32} {s e : Nat → Int} {ld dir : Nat} {col : Int32} {byc : Bool} {b : Int} (hld : ld = 0 ∨ ld = 2) (hdir : dir < 6) (hb : ∀ k, k < 4 → -1000000 ≤ s k ∧ s k ≤ 1000000) (hb' : ∀ k, k < 4 → -1000000 ≤ e k ∧ e k ≤ 1000000) (hbb : b ≤ 31) (hb2 : -100000000 ≤ b) : ∀ (k f : Nat) (v : Int) (a : Nat → Nat → Int32), k < f → (∀ k, k < 4 → a 22 k = Int32.ofInt (s k)) → (∀ k, k < 4 → a 23 k = Int32.ofInt (e k)) → -32 ≤ v → v ≤ 100000000 → k = (b + 1 - v).toNat → m_Turtles_draw_b173c n g f i a (nI dir) col (b1 byc) (nI ld) (nI (2 - ld)) (Int32.ofInt b) (Int32.ofInt v) = some (i, updA a 21 (aDots col (aAcross s s e ld (2 - ld) (aSlope dir)) byc k v (a 21)), nI 0) := by
  intro k
  induction k with
  | zero =>
    intro f v a hf hs he hv hv2 hk
    match f, hf with
    | f + 1, _ =>
      rw [m_Turtles_draw_b173c, if_pos ((I_lt (by omega) (by omega)).mpr (by omega))]
      show _ = some (i, updA a 21 (a 21), nI 0)
      rw [updA_self]
      rfl
  | succ k ih =>
    intro f v a hf hs he hv hv2 hk
    match f, hf with
    | f + 1, hf =>
      have w : ∀ x, x < 4 → ∀ (α : Type) (o : Option α), ck (nI x) 4 o = o := fun x hx α o => ck_n ⟨hx, by decide⟩
      have hlb := hb ld (by omega)
      have hlb1 := hb (ld + 1) (by omega)
      have hlc := hb' ld (by omega)
      have hlc1 := hb' (ld + 1) (by omega)
      have hfb := hb (2 - ld) (by omega)
      have hfb1 := hb (2 - ld + 1) (by omega)
      have hfc := hb' (2 - ld) (by omega)
      have hfc1 := hb' (2 - ld + 1) (by omega)
      have go : ∀ z : Int, -100000000 ≤ z ∧ z ≤ 100000000 → z = aAcross s s e ld (2 - ld) (aSlope dir) v → m_Turtles_draw_b283c n g (m_Turtles_draw_b173c n g f) i a (nI dir) col (b1 byc) (nI ld) (nI (2 - ld)) (Int32.ofInt b) (Int32.ofInt v) (Int64.ofInt z) = some (i, updA a 21 (aDots col (aAcross s s e ld (2 - ld) (aSlope dir)) byc (k + 1) v (a 21)), nI 0) := by
        intro z hz ez
        rw [h_b283c (by omega) hz, ih f (v + 1) _ (by omega) (by rw [updA_ne (by decide)]; exact hs) (by rw [updA_ne (by decide)]; exact he) (by omega) (by omega) (by omega), updA_updA, updA_at, ez]
        rfl
      have hsd1 := aSide_b (s ld) (s (ld + 1)) v
      have hsd2 := aSide_b (e ld) (e (ld + 1)) v
      rw [m_Turtles_draw_b173c, if_neg (fun e9 => by have := (I_lt (by omega) (by omega)).mp e9; omega), w ld (by omega), show nI ld + (1 : Int32) = nI (ld + 1) from nI_add ld 1, w (ld + 1) (by omega), cl_n (by omega), cl_n (by omega), hs ld (by omega), hs (ld + 1) (by omega), h_sideOf (by omega) (by omega) (by omega), ob0_s]
      rcases Classical.em (0 < aSide (s ld) (s (ld + 1)) v) with h1 | h1
      · have ez : flH (s (2 - ld) + 1) (s (2 - ld + 1)) = aAcross s s e ld (2 - ld) (aSlope dir) v := by
          unfold aAcross
          rw [if_pos h1]
        have hzb := flH_b (p := s (2 - ld) + 1) (q := s (2 - ld + 1)) (M := 1000001) (by omega) (by omega) (by decide)
        rw [if_neg (by rw [show (0 : Int32) = Int32.ofInt 0 from rfl, I_le (by omega) (by omega)]; omega), w (2 - ld) (by omega), show nI (2 - ld) + (1 : Int32) = nI (2 - ld + 1) from nI_add (2 - ld) 1, w (2 - ld + 1) (by omega), cl_n (by omega), cl_n (by omega), hs (2 - ld) (by omega), hs (2 - ld + 1) (by omega), show Int32.ofInt (s (2 - ld)) + (1 : Int32) = Int32.ofInt (s (2 - ld) + 1) by rw [Int32.ofInt_add]; rfl, i32_64 (by omega) (by omega), i32_64 (by omega) (by omega), h_half (by omega) (by omega), ob0_s]
        exact go _ (by omega) ez
      · rw [if_pos (by rw [show (0 : Int32) = Int32.ofInt 0 from rfl, I_le (by omega) (by omega)]; omega), w ld (by omega), w (ld + 1) (by omega), he ld (by omega), he (ld + 1) (by omega), h_sideOf (by omega) (by omega) (by omega), ob0_s]
        rcases Classical.em (aSide (e ld) (e (ld + 1)) v < 0) with h2 | h2
        · have ez : flH (e (2 - ld) + 1) (e (2 - ld + 1)) = aAcross s s e ld (2 - ld) (aSlope dir) v := by
            unfold aAcross
            rw [if_neg h1, if_pos h2]
          have hzb := flH_b (p := e (2 - ld) + 1) (q := e (2 - ld + 1)) (M := 1000001) (by omega) (by omega) (by decide)
          rw [if_neg (by rw [show (0 : Int32) = Int32.ofInt 0 from rfl, I_le (by omega) (by omega)]; omega), w (2 - ld) (by omega), show nI (2 - ld) + (1 : Int32) = nI (2 - ld + 1) from nI_add (2 - ld) 1, w (2 - ld + 1) (by omega), cl_n (by omega), cl_n (by omega), he (2 - ld) (by omega), he (2 - ld + 1) (by omega), show Int32.ofInt (e (2 - ld)) + (1 : Int32) = Int32.ofInt (e (2 - ld) + 1) by rw [Int32.ofInt_add]; rfl, i32_64 (by omega) (by omega), i32_64 (by omega) (by omega), h_half (by omega) (by omega), ob0_s]
          exact go _ (by omega) ez
        · have hsl := aSlope_3 dir
          have et : tw_st 2 (nI dir).toNatClampNeg = Int32.ofInt (aSlope dir) := by
            rw [cl_n (by omega)]
            rcases (by omega : dir = 0 ∨ dir = 1 ∨ dir = 2 ∨ dir = 3 ∨ dir = 4 ∨ dir = 5) with rfl | rfl | rfl | rfl | rfl | rfl <;> rfl
          have ez : (3 * (s (2 - ld) - aSlope dir * s (ld + 1)) + 3 + fl3 (3 * s (2 - ld + 1) + aSlope dir * (2 * v - s ld))) / 6 = aAcross s s e ld (2 - ld) (aSlope dir) v := by
            unfold aAcross
            rw [if_neg h1, if_neg h2]
          have e2 : -10000000 ≤ 3 * s (2 - ld + 1) + aSlope dir * (2 * v - s ld) ∧ 3 * s (2 - ld + 1) + aSlope dir * (2 * v - s ld) ≤ 10000000 := by rcases hsl with e8 | e8 | e8 <;> rw [e8] <;> omega
          have e3 : -2000000 ≤ s (2 - ld) - aSlope dir * s (ld + 1) ∧ s (2 - ld) - aSlope dir * s (ld + 1) ≤ 2000000 := by rcases hsl with e8 | e8 | e8 <;> rw [e8] <;> omega
          have hf3 := fl3_b e2
          rw [if_pos (by rw [show (0 : Int32) = Int32.ofInt 0 from rfl, I_le (by omega) (by omega)]; omega), ck_n (by omega), et, h_cross hld hs hb hsl (by omega), ob0_s]
          exact go _ (by omega) ez

