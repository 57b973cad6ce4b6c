/-! what the class shows -/
theorem i32_cases (x : Int32) : x < 0 ∨ (¬ x < 0 ∧ ∃ z, z < 2147483648 ∧ x = nI z) := by
  rcases Classical.em (x < 0) with h | h
  · exact Or.inl h
  · refine Or.inr ⟨h, x.toNatClampNeg, ?_, ?_⟩
    · have hlt := Int32.toInt_lt x
      show x.toInt.toNat < 2147483648
      omega
    · rw [Int32.lt_iff_toInt_lt] at h
      have e0 : (0 : Int32).toInt = 0 := rfl
      have e1 : (x.toNatClampNeg : Int) = x.toInt := by
        show ((x.toInt.toNat : Nat) : Int) = x.toInt
        omega
      apply Int32.toInt_inj.mp
      have hlt := Int32.toInt_lt x
      rw [nI_toInt (by omega), e1]
theorem WC_ci {g : Nat → Nat} {i : Nat → Int32} {a : Nat → Nat → Int32} {cc : Nat} {c : Cfg} {G0 : GS} {tl : Tr} {bk : Bool} {tp : Nat → Nat} {N fk fp : Nat} (h : WC g i a cc (c, G0, tl, bk, tp, N, fk, fp)) : ∃ T ks, CI g i a T (gSetKept c.1 ks) c.2.1 c.2.2.1 c.2.2.2.1 ∧ aInv2 c ∧ RW i a tp N fk fp := by
  obtain ⟨T, kt, B, h1, h2, h3, _⟩ := h
  obtain ⟨G, N', F, L, ph, got, rd⟩ := c
  exact ⟨T, _, h1.1, h2.1, h3⟩
def aLook (w : AW) (x : Int32) : Int32 := match w with
  | (c, _, _, _, _, N, _, _) => if x = 0 then nI (cSt c) else if x = 1 then nI (nErr c.2.1) else if x = 2 then nI (cDone c) else if x = 3 then nI c.2.2.2.1.length else if x = 4 then nI (lvWaits c.2.2.2.1) else if x = 5 then nI (nMade c.2.1) else if x = 6 then nI (nCaught c.2.1) else if x = 7 then nI (gTold c.1) else if x = 8 then nI (gGlob c.1).length else if x = 9 then nI (gProcs c.1).length else if x = 10 then nI (min (gOut c.1).length 2000) else if x = 11 then nI N else if x = 12 then gSeed c.1 else if x = 13 then nI (lvCalls c.2.2.2.1) else -1
theorem sI {α : Type} {c : Prop} [Decidable c] {x y : α} {r : Option α} (h : r = some y) : (if c then some x else r) = some (if c then x else y) := by
  split
  · rfl
  · exact h
theorem W_look {n : Nat} {g : Nat → Nat} {i : Nat → Int32} {a : Nat → Nat → Int32} {cc : Nat} {w : AW} {x : Int32} (h : WC g i a cc w) : m_World_look n g i a x = some (aLook w x) := by
  obtain ⟨c, G0, tl, bk, tp, N, fk, fp⟩ := w
  obtain ⟨T, ks, ⟨h1, ⟨b1, b2, b3, b4, b5, ⟨q, _, _, b6, _⟩, b7⟩, ⟨c1, c2, c3, c4, c5⟩, d1, ⟨e1, e2, e3, e4⟩⟩, hv, hw⟩ := WC_ci h
  have hN := hw.1.1
  unfold m_World_look aLook m_Machine_waitingCount
  dsimp only
  rw [c1, c2, c3, c4, c5, e1, e2, e3, b5, b1.1, b2.1, b6, hN, b7.1, ob0_s]
  exact sI (sI (sI (sI (sI (sI (sI (sI (sI (sI (sI (sI (sI (sI rfl)))))))))))))
theorem ts_same {f h : Nat → Int32} (hf : ∀ k, k < 56 → f k = h k) (t k : Int32) : ts_part f t k = ts_part h t k := by
  unfold ts_part ts_exists
  rcases i32_cases t with ht | ⟨ht, z, hz, rfl⟩
  · rw [if_pos ht, if_pos rfl, if_pos rfl]
  rw [if_neg ht]
  rcases Nat.lt_or_ge z 8 with h8 | h8
  · rw [if_neg (show ¬ (8 : Int32) ≤ nI z from nI_ge (b := 8) h8 (by decide)), if_neg (show ¬ (1 : Int32) = 0 from by decide), if_neg (show ¬ (1 : Int32) = 0 from by decide)]
    rcases i32_cases k with hk | ⟨hk, y, hy, rfl⟩
    · rw [if_pos hk, if_pos hk]
    rw [if_neg hk, if_neg hk]
    rcases Nat.lt_or_ge y 7 with h7 | h7
    · rw [if_neg (show ¬ (7 : Int32) ≤ nI y from nI_ge (b := 7) h7 (by decide)), if_neg (show ¬ (7 : Int32) ≤ nI y from nI_ge (b := 7) h7 (by decide)), show nI z * (7 : Int32) + nI y = nI (z * 7 + y) from by rw [show nI z * (7 : Int32) = nI (z * 7) from pk_mul z 7, nI_add], cl_n (by omega)]
      exact hf _ (by omega)
    · rw [if_pos (show (7 : Int32) ≤ nI y from nI_le (a := 7) h7 (by omega)), if_pos (show (7 : Int32) ≤ nI y from nI_le (a := 7) h7 (by omega))]
  · rw [if_pos (show (8 : Int32) ≤ nI z from nI_le (a := 8) h8 (by omega)), if_pos rfl, if_pos rfl]
theorem h_partW {n : Nat} {g : Nat → Nat} {i : Nat → Int32} {a : Nat → Nat → Int32} (t k : Int32) : m_Turtles_part n g i a t k = some (ts_part (a 20) t k) := by
  unfold m_Turtles_part m_Turtles_exists ts_part ts_exists
  rcases i32_cases t with ht | ⟨ht, z, hz, rfl⟩
  · rw [if_pos ht, ob0_s, if_pos ht, if_pos rfl, if_pos rfl]
  rw [if_neg ht, if_neg ht]
  rcases Nat.lt_or_ge z 8 with h8 | h8
  · rw [if_neg (show ¬ (8 : Int32) ≤ nI z from nI_ge (b := 8) h8 (by decide)), if_neg (show ¬ (8 : Int32) ≤ nI z from nI_ge (b := 8) h8 (by decide)), ob0_s, if_neg (show ¬ (1 : Int32) = 0 from by decide), if_neg (show ¬ (1 : Int32) = 0 from by decide)]
    rcases i32_cases k with hk | ⟨hk, y, hy, rfl⟩
    · rw [if_pos hk, if_pos hk]
    rw [if_neg hk, if_neg hk]
    rcases Nat.lt_or_ge y 7 with h7 | h7
    · rw [if_neg (show ¬ (7 : Int32) ≤ nI y from nI_ge (b := 7) h7 (by decide)), if_neg (show ¬ (7 : Int32) ≤ nI y from nI_ge (b := 7) h7 (by decide)), show nI z * (7 : Int32) + nI y = nI (z * 7 + y) from by rw [show nI z * (7 : Int32) = nI (z * 7) from pk_mul z 7, nI_add], ck_n (by omega)]
    · rw [if_pos (show (7 : Int32) ≤ nI y from nI_le (a := 7) h7 (by omega)), if_pos (show (7 : Int32) ≤ nI y from nI_le (a := 7) h7 (by omega))]
  · rw [if_pos (show (8 : Int32) ≤ nI z from nI_le (a := 8) h8 (by omega)), if_pos (show (8 : Int32) ≤ nI z from nI_le (a := 8) h8 (by omega)), ob0_s, if_pos rfl, if_pos rfl]
theorem W_turtle {n : Nat} {g : Nat → Nat} {i : Nat → Int32} {a : Nat → Nat → Int32} {cc : Nat} {c : Cfg} {G0 : GS} {tl : Tr} {bk : Bool} {tp : Nat → Nat} {N fk fp : Nat} {x y : Int32} (h : WC g i a cc (c, G0, tl, bk, tp, N, fk, fp)) : m_World_turtle n g i a x y = some (m_World_turtle_r (gParts c.1) x y) := by
  obtain ⟨T, ks, ⟨h1, ⟨b1, b2, b3, b4⟩, h3⟩, hv, hw⟩ := WC_ci h
  unfold m_World_turtle m_World_turtle_r m_Turtles_exists ts_exists
  rw [h_partW, ts_same b3]
  rcases Classical.em (x < 0) with c1 | c1
  · rw [if_pos c1, ob0_s, if_pos c1, if_pos rfl, if_pos rfl]
  rw [if_neg c1, if_neg c1]
  rcases Classical.em ((8 : Int32) ≤ x) with c2 | c2
  · rw [if_pos c2, if_pos c2, ob0_s, if_pos rfl, if_pos rfl]
  rw [if_neg c2, if_neg c2, ob0_s, ob0_s, if_neg (show ¬ (1 : Int32) = 0 from by decide), if_neg (show ¬ (1 : Int32) = 0 from by decide)]
  rcases Classical.em (y < 0) with c3 | c3
  · rw [if_pos c3, if_pos c3]
  rw [if_neg c3, if_neg c3]
  rcases Classical.em (y ≤ 2) with c4 | c4
  · rw [if_pos c4, if_pos c4]
    rcases Classical.em (y = 0) with c5 | c5
    · rw [if_pos c5, if_pos c5]; rfl
    · rw [if_neg c5, if_neg c5]; rfl
  · rw [if_neg c4, if_neg c4]
theorem W_place {g : Nat → Nat} {i : Nat → Int32} {a : Nat → Nat → Int32} {cc : Nat} {c : Cfg} {G0 : GS} {tl : Tr} {bk : Bool} {tp : Nat → Nat} {N fk fp : Nat} {x y z : Int32} (h : WC g i a cc (c, G0, tl, bk, tp, N, fk, fp)) : m_World_place_r (a 20) x y z = m_World_place_r (gParts c.1) x y z ∧ m_World_side_r (a 20) x y z = m_World_side_r (gParts c.1) x y z := by
  obtain ⟨T, ks, ⟨h1, ⟨b1, b2, b3, b4⟩, h3⟩, hv, hw⟩ := WC_ci h
  unfold m_World_place_r m_World_side_r
  rw [ts_same b3, ts_same b3, ts_same b3]
  exact ⟨rfl, rfl⟩
def aDotW (G : GS) (x y : Int32) : Int32 := if -32 ≤ x.toInt ∧ x.toInt < 32 ∧ -32 ≤ y.toInt ∧ y.toInt < 32 then gDots G ((y.toInt + 32) * 64 + x.toInt + 32).toNat else -1
theorem W_dot {n : Nat} {g : Nat → Nat} {i : Nat → Int32} {a : Nat → Nat → Int32} {cc : Nat} {c : Cfg} {G0 : GS} {tl : Tr} {bk : Bool} {tp : Nat → Nat} {N fk fp : Nat} {x y : Int32} (h : WC g i a cc (c, G0, tl, bk, tp, N, fk, fp)) : m_World_dot n g i a x y = some (aDotW c.1 x y) := by
  obtain ⟨T, ks, ⟨h1, ⟨b1, b2, b3, b4, b5⟩, h3⟩, hv, hw⟩ := WC_ci h
  have on : ∀ (x y : Int32), m_Turtles_onScreen n x.toInt64 y.toInt64 = some (if -32 ≤ x.toInt ∧ x.toInt < 32 ∧ -32 ≤ y.toInt ∧ y.toInt < 32 then 1 else 0) := by
    intro x y
    unfold m_Turtles_onScreen
    have ex : ∀ z : Int32, z.toInt64 = Int64.ofInt z.toInt := fun z => by
      apply Int64.toInt_inj.mp
      have h1 := Int32.toInt_lt z
      have h2 := Int32.le_toInt z
      rw [Int32.toInt_toInt64, Int64.toInt_ofInt_of_le (by show -9223372036854775808 ≤ _; omega) (by show _ < 9223372036854775808; omega)]
    have hx1 := Int32.toInt_lt x
    have hx2 := Int32.le_toInt x
    have hy1 := Int32.toInt_lt y
    have hy2 := Int32.le_toInt y
    rw [ex x, ex y, show (-32 : Int64) = Int64.ofInt (-32) from by decide, show (32 : Int64) = Int64.ofInt 32 from rfl]
    rcases Classical.em (x.toInt < -32) with h1 | h1
    · rw [if_pos ((lg_lt (by omega) (by omega)).mpr h1), if_neg (by omega)]
    rw [if_neg (fun e => h1 ((lg_lt (by omega) (by omega)).mp e))]
    rcases Classical.em (32 ≤ x.toInt) with h2 | h2
    · rw [if_pos ((lg_ge (by omega) (by omega)).mpr h2), if_neg (by omega)]
    rw [if_neg (fun e => h2 ((lg_ge (by omega) (by omega)).mp e))]
    rcases Classical.em (y.toInt < -32) with h3 | h3
    · rw [if_pos ((lg_lt (by omega) (by omega)).mpr h3), if_neg (by omega)]
    rw [if_neg (fun e => h3 ((lg_lt (by omega) (by omega)).mp e))]
    rcases Classical.em (32 ≤ y.toInt) with h4 | h4
    · rw [if_pos ((lg_ge (by omega) (by omega)).mpr h4), if_neg (by omega)]
    rw [if_neg (fun e => h4 ((lg_ge (by omega) (by omega)).mp e)), if_pos (by omega)]
  unfold m_World_dot m_Turtles_colourAt aDotW
  rw [on, ob0_s]
  rcases Classical.em (-32 ≤ x.toInt ∧ x.toInt < 32 ∧ -32 ≤ y.toInt ∧ y.toInt < 32) with c1 | c1
  · rw [if_pos c1, if_neg (by decide), if_pos c1]
    have e := h_dotAt (n := n) (x := x.toInt) (y := y.toInt) ⟨c1.1, c1.2.1⟩ ⟨c1.2.2.1, c1.2.2.2⟩
    rw [Int32.ofInt_toInt, Int32.ofInt_toInt] at e
    rw [e, ob0_s, ck_n (by omega), ob0_s, cl_n (by omega)]
    congr 1
    exact b4 _ (by omega)
  · rw [if_neg c1, if_pos rfl, if_neg c1, ob0_s]
def aSumF (f : Nat → Int32) : Nat → Nat → Int32 → Int32
  | 0, _, s => s
  | m + 1, k, s => aSumF f m (k + 1) (31 * s + f k)
theorem aSumF_congr {f h : Nat → Int32} : ∀ (m k : Nat) (s : Int32), (∀ x, k ≤ x → x < k + m → f x = h x) → aSumF f m k s = aSumF h m k s := by
  intro m
  induction m with
  | zero => intro k s _; rfl
  | succ m ih => intro k s hx; rw [aSumF, aSumF, hx k (by omega) (by omega)]; exact ih _ _ (fun x h1 h2 => hx x (by omega) (by omega))
def aSumW (G : GS) : Int32 := aSumF (gParts G) 56 0 (aSumF (gDots G) 4096 0 0)
theorem W_sum {n : Nat} {g : Nat → Nat} {i : Nat → Int32} {a : Nat → Nat → Int32} {cc : Nat} {c : Cfg} {G0 : GS} {tl : Tr} {bk : Bool} {tp : Nat → Nat} {N fk fp : Nat} (hn : 5000 ≤ n) (h : WC g i a cc (c, G0, tl, bk, tp, N, fk, fp)) : m_World_sum n g i a = some (aSumW c.1) := by
  obtain ⟨T, ks, ⟨h1, ⟨b1, b2, b3, b4, b5⟩, h3⟩, hv, hw⟩ := WC_ci h
  have l2 : ∀ (m k f : Nat) (s : Int32), k + m = 56 → m < f → m_Turtles_sumUp_b33 n g i a f s (nI k) = some (aSumF (a 20) m k s) := by
    intro m
    induction m with
    | zero =>
      intro k f s e hf
      obtain ⟨f, rfl⟩ : ∃ f', f = f' + 1 := ⟨f - 1, by omega⟩
      rw [m_Turtles_sumUp_b33, ile_p (by omega)]; rfl
    | succ m ih =>
      intro k f s e hf
      obtain ⟨f, rfl⟩ : ∃ f', f = f' + 1 := ⟨f - 1, by omega⟩
      rw [m_Turtles_sumUp_b33, ile_n (by omega), ck_n (by omega), ob1_s, ob1_s, cl_n (by omega), show (1 : Int32) = nI 1 from rfl, nI_add, aSumF]
      exact ih (k + 1) f _ (by omega) (by omega)
  obtain ⟨Φ, hΦ⟩ : ∃ Φ : Int32 → Int32, ∀ s, Φ s = aSumF (a 20) 56 0 s := ⟨fun s => aSumF (a 20) 56 0 s, fun _ => rfl⟩
  have l3 : ∀ s, m_Turtles_sumUp_b33 n g i a n s (nI 0) = some (Φ s) := fun s => by rw [hΦ]; exact l2 56 0 n s (by omega) (by omega)
  have l1 : ∀ (m k f : Nat) (s : Int32), k + m = 4096 → m < f → m_Turtles_sumUp_b4 n g i a f s (nI k) = some (Φ (aSumF (a 21) m k s)) := by
    intro m
    induction m with
    | zero =>
      intro k f s e hf
      obtain ⟨f, rfl⟩ : ∃ f', f = f' + 1 := ⟨f - 1, by omega⟩
      rw [m_Turtles_sumUp_b4, ile_p (by omega), show (0 : Int32) = nI 0 from rfl]
      exact l3 _
    | succ m ih =>
      intro k f s e hf
      obtain ⟨f, rfl⟩ : ∃ f', f = f' + 1 := ⟨f - 1, by omega⟩
      rw [m_Turtles_sumUp_b4, ile_n (by omega), ck_n (by omega), ob1_s, ob1_s, cl_n (by omega), show (1 : Int32) = nI 1 from rfl, nI_add, aSumF]
      exact ih (k + 1) f _ (by omega) (by omega)
  unfold m_World_sum m_Turtles_sumUp aSumW
  rw [show (0 : Int32) = nI 0 from rfl, l1 4096 0 n (nI 0) (by omega) (by omega), ob0_s, hΦ, aSumF_congr (f := a 21) (h := gDots c.1) 4096 0 (nI 0) (fun x _ hx => b4 x (by omega)), aSumF_congr (f := a 20) (h := gParts c.1) 56 0 _ (fun x _ hx => b3 x (by omega))]
theorem h_floorMod2 {n : Nat} {x : Int} (hx : -2000000000 ≤ x ∧ x ≤ 2000000000) : m_Math_floorMod n (Int32.ofInt x) 2000 = some (Int32.ofInt (x % 2000)) := by
  unfold m_Math_floorMod cz
  have e1 : Int32.ofInt x - Int32.ofInt x / 2000 * 2000 = Int32.ofInt (x.tmod 2000) := by
    rw [show (2000 : Int32) = Int32.ofInt 2000 from rfl, ← Int32.ofInt_tdiv (by show -2147483648 ≤ _; omega) (by show _ ≤ 2147483647; omega) (by decide) (by decide), ← Int32.ofInt_mul, ← Int32.ofInt_sub, Int.tmod_def, Int.mul_comm]
  rw [if_neg (by decide), ob1_s, e1]
  rcases Classical.em (0 ≤ x) with h0 | h0
  · have hxp : 0 ≤ Int32.ofInt x := by
      rw [show (0 : Int32) = Int32.ofInt 0 from rfl, I_le (by omega) (by omega)]
      omega
    rw [if_pos (by rw [I_xor]; exact ⟨fun _ => by decide, fun _ => hxp⟩), Int.tmod_eq_emod_of_nonneg h0]
  · have hxp : ¬ 0 ≤ Int32.ofInt x := by
      rw [show (0 : Int32) = Int32.ofInt 0 from rfl, I_le (by omega) (by omega)]
      omega
    have e2 : x.tmod 2000 = -((-x) % 2000) := by
      rw [Int.tmod_def, tdiv_neg (by omega) (by omega)]
      omega
    rw [if_neg (by rw [I_xor]; exact fun e => hxp (e.mpr (by decide))), e2]
    rcases Classical.em (-((-x) % 2000) = 0) with h9 | h9
    · rw [if_pos (by rw [h9]; rfl)]
      congr 2; omega
    · rw [if_neg (by rw [show (0 : Int32) = Int32.ofInt 0 from rfl, I_eq (by omega) (by omega)]; exact h9), show (2000 : Int32) = Int32.ofInt 2000 from rfl, ← Int32.ofInt_add]
      congr 2; omega
def aOutW (G : GS) (x : Int32) : Int32 := if x < 0 then -1 else if 2000 ≤ x.toNatClampNeg then -1 else match (gOut G)[x.toNatClampNeg]? with
  | none => -1
  | some c => nI c
theorem W_out {n : Nat} {g : Nat → Nat} {i : Nat → Int32} {a : Nat → Nat → Int32} {cc : Nat} {c : Cfg} {G0 : GS} {tl : Tr} {bk : Bool} {tp : Nat → Nat} {N fk fp : Nat} {x : Int32} (h : WC g i a cc (c, G0, tl, bk, tp, N, fk, fp)) : m_World_out n g i a x = some (aOutW c.1 x) := by
  obtain ⟨T, ks, ⟨h1, ⟨b1, b2, b3, b4, b5, ⟨q, o1, o2, o3, o4⟩, b7⟩, h3⟩, hv, hw⟩ := WC_ci h
  unfold m_World_out m_Output_latest aOutW
  rcases i32_cases x with ht | ⟨ht, z, hz, rfl⟩
  · rw [if_pos ht, if_pos ht, ob0_s]
  rw [if_neg ht, if_neg ht, cl_n hz]
  have o3 : i 20 = nI (min (gOut c.1).length 2000) := o3
  rw [o3]
  rcases Nat.lt_or_ge z (min (gOut c.1).length 2000) with c1 | c1
  · rw [ile_n (by omega), if_neg (by omega), List.getElem?_eq_getElem (by omega), o1]
    have hm : m_Math_floorMod n (nI q - (1 : Int32) - nI z) (2000 : Int32) = some (nI ((q + 1999 - z) % 2000)) := by
      have e1 : nI q - (1 : Int32) - nI z = Int32.ofInt ((q : Int) - 1 - z) := by
        rw [show nI q = Int32.ofInt (q : Int) from rfl, show (1 : Int32) = Int32.ofInt 1 from rfl, show nI z = Int32.ofInt (z : Int) from rfl, ← Int32.ofInt_sub, ← Int32.ofInt_sub]
      have key := h_floorMod2 (n := n) (x := (q : Int) - 1 - z) (by omega)
      rw [e1, key]
      rw [nI_ofInt]
      congr 2
      omega
    rw [hm, ob0_s, ck_n (by omega), ob0_s, cl_n (by omega)]
    congr 1
    exact o4 z (by show z < (gOut c.1).length; omega) (by omega)
  · rw [ile_p (by omega), ob0_s]
    rcases Nat.lt_or_ge z 2000 with c2 | c2
    · rw [if_neg (by omega), List.getElem?_eq_none (by omega)]
    · rw [if_pos c2]
def aLetter (l : List Nat) (x : Int32) : Int32 := if x < 0 then -1 else match l[x.toNatClampNeg]? with
  | none => -1
  | some c => nI c
theorem h_letter {n : Nat} {g : Nat → Nat} {i : Nat → Int32} {a : Nat → Nat → Int32} {T : Nat} {l : List Nat} {v x : Int32} (hn : 100 ≤ n) (ht : T ≤ g 0) (hg : g 0 ≤ 340000) (h : cV (a 0) T (tW l) none v) : m_Heap_letter n g i a v x = some (aLetter l x) := by
  have hk := (cV_kinds (by omega) h n).1
  have hs := h_size (n := n) (i := i) ht hg hn h
  rw [isW_tW] at hk
  rw [tSz_tW] at hs
  obtain ⟨p, rfl, q1, q2, q3, q4, q5, q6, q7, q8⟩ := cV_tW.mp h
  unfold m_Heap_letter aLetter
  rw [hk, ob0_s, if_neg (show ¬ b1 true = (0 : Int32) from fun e => absurd ((nI_eq (a := 1) (b := 0) (by omega) (by omega)).mp e) (by decide))]
  rcases i32_cases x with hx | ⟨hx, z, hz, rfl⟩
  · rw [if_pos hx, if_pos hx]
  rw [if_neg hx, if_neg hx, hs, ob0_s, cl_n hz]
  rcases Nat.lt_or_ge z l.length with c1 | c1
  · rw [ile_n (by omega), List.getElem?_eq_getElem c1]
    simp only [i32_lit]
    rw [sh_w (by omega), nI_add, ck_n (by omega), cl_n (by omega), q6 z c1]
  · rw [ile_p (by omega), List.getElem?_eq_none c1]
def aNameW (G : GS) (k x : Int32) : Int32 := if k < 0 then -1 else match (gGlob G)[k.toNatClampNeg]? with
  | none => -1
  | some p => aLetter p.1 x
theorem W_name {n : Nat} {g : Nat → Nat} {i : Nat → Int32} {a : Nat → Nat → Int32} {cc : Nat} {c : Cfg} {G0 : GS} {tl : Tr} {bk : Bool} {tp : Nat → Nat} {N fk fp : Nat} {x y : Int32} (hn : 100 ≤ n) (h : WC g i a cc (c, G0, tl, bk, tp, N, fk, fp)) : m_World_name n g i a x y = some (aNameW c.1 x y) := by
  obtain ⟨T, ks, ⟨⟨a1, a2, a3, a4, a5, a6⟩, ⟨b1, b2⟩, h3⟩, hv, hw⟩ := WC_ci h
  have b11 : i 12 = nI (gGlob c.1).length := b1.1
  have b12 : (gGlob c.1).length ≤ 64 := b1.2.1
  have no : m_Heap_letter n g i a (-2147483648 : Int32) y = some (-1) := by
    unfold m_Heap_letter
    rw [show (-2147483648 : Int32) = -nI 2147483648 from rfl, no_word, ob0_s, if_pos (show nI 0 = (0 : Int32) from rfl)]
  unfold m_World_name m_Names_globalName aNameW
  rcases i32_cases x with hx | ⟨hx, z, hz, rfl⟩
  · rw [if_pos hx, ob0_s, no, ob0_s, if_pos hx]
  rw [if_neg hx, if_neg hx, b11, cl_n hz]
  rcases Nat.lt_or_ge z (gGlob c.1).length with c1 | c1
  · rw [ile_n (by omega), ck_n (by omega), ob0_s, h_letter hn a3 a5 (b1.2.2 z c1).1, ob0_s, List.getElem?_eq_getElem c1]
    rfl
  · rw [ile_p (by omega), ob0_s, no, ob0_s, List.getElem?_eq_none c1]
def aProcW (G : GS) (k x : Int32) : Int32 := if k < 0 then -1 else match (gProcs G)[k.toNatClampNeg]? with
  | none => -1
  | some p => if x < 0 then -1 else if x = 0 then nI p.2.1.length else if x = 1 then nI (tMem p.2.2).length else aLetter p.1 (x - 2)
theorem W_procedure {n : Nat} {g : Nat → Nat} {i : Nat → Int32} {a : Nat → Nat → Int32} {cc : Nat} {c : Cfg} {G0 : GS} {tl : Tr} {bk : Bool} {tp : Nat → Nat} {N fk fp : Nat} {x y : Int32} (hn : 100 ≤ n) (h : WC g i a cc (c, G0, tl, bk, tp, N, fk, fp)) : m_World_procedure n g i a x y = some (aProcW c.1 x y) := by
  obtain ⟨T, ks, ⟨⟨a1, a2, a3, a4, a5, a6⟩, ⟨b1, b2, b3⟩, h3⟩, hv, hw⟩ := WC_ci h
  have b11 : i 15 = nI (gProcs c.1).length := b2.1
  have b12 : (gProcs c.1).length ≤ 40 := b2.2.1
  unfold m_World_procedure aProcW
  rcases i32_cases x with hx | ⟨hx, z, hz, rfl⟩
  · rw [if_pos hx, if_pos hx]
  rw [if_neg hx, if_neg hx, b11, cl_n hz]
  rcases Nat.lt_or_ge z (gProcs c.1).length with c1 | c1
  · rw [ile_n (by omega), List.getElem?_eq_getElem c1]
    dsimp only
    obtain ⟨v1, v2, v3⟩ := b2.2.2 z c1
    rcases Classical.em (y < 0) with c2 | c2
    · rw [if_pos c2, if_neg]
      rw [Int32.le_iff_toInt_le]
      rw [Int32.lt_iff_toInt_lt] at c2
      omega
    · rw [if_neg c2, if_pos (show (0 : Int32) ≤ y by rw [Int32.le_iff_toInt_le]; rw [Int32.lt_iff_toInt_lt] at c2; omega)]
      rcases Classical.em (y = 0) with c3 | c3
      · rw [if_pos c3, if_pos c3, ck_n (by omega), h_count a3 a5 v2, ob0_s, tMem_tL, List.length_map]; rfl
      rw [if_neg c3, if_neg c3]
      rcases Classical.em (y = 1) with c4 | c4
      · rw [if_pos c4, if_pos c4, ck_n (by omega), h_count a3 a5 v3, ob0_s]; rfl
      · rw [if_neg c4, if_neg c4, ck_n (by omega), h_letter hn a3 a5 v1, ob0_s]; rfl
  · rw [ile_p (by omega), List.getElem?_eq_none c1]

