/-! the class drops what nothing reaches -/
theorem CS_SZ {g : Nat → Nat} {i : Nat → Int32} {a : Nat → Nat → Int32} {f0 : Nat → Int32} {T S A Z : Nat} (h : CS g i a f0 T S A Z) : S ≤ Z := by
  obtain ⟨c1, c2, c3, c4, c5, c6, c7, c10, tr, c8, c9⟩ := h.1
  omega
theorem FX_keep {f f' : Nat → Int32} (h : FX f) (hf : ∀ x, x < 21 → f' x = f x) : FX f' := ⟨by rw [sA_congr 21 hf]; exact h.1, fun p h1 h2 => by rw [hf p h2]; exact h.2 p h1 h2⟩
theorem h_beginC {n : Nat} {g : Nat → Nat} {i : Nat → Int32} {a : Nat → Nat → Int32} {T : Nat} (hF : FX (a 0)) (h7 : i 7 = nI 21) (hT : T ≤ g 0) (hg0 : 16384 ≤ g 0) (hg : g 0 ≤ 340000) (hg1 : 16384 ≤ g 1) (hg2 : g 1 ≤ 340000) (hx : lexOk a) : m_Heap_beginCollecting n g i a = some (upd i 9 (nI 21), updA a 1 (va_cpy (a 0) (a 1) 0 0 21), nI 0) ∧ CS g (upd i 9 (nI 21)) (updA a 1 (va_cpy (a 0) (a 1) 0 0 21)) (a 0) T 21 21 21 := by
  have hs : ∀ x, x < 21 → va_cpy (a 0) (a 1) 0 0 21 x = a 0 x := fun x hx => by rw [va_in (by omega) (by omega)]; congr 1; omega
  refine ⟨?_, ⟨fun _ _ => rfl, hs, ?_, Nat.le_refl _, Nat.le_refl _, fun _ _ _ _ => Or.inl rfl, fun _ _ _ _ _ => Or.inl rfl, fun x h1 h2 => by omega, fun _ => .nil, fun x h1 h2 => by omega, ?_⟩, rfl, h7, by omega, hg1, hg2, hT, hg, hx⟩
  · unfold m_Heap_beginCollecting
    simp only [i32_lit]
    rw [h7, cy_n (by omega), ob1_s, ob1_s, ob1_s]
    simp (disch := omega) only [cl_n]
  · show sA (va_cpy (a 0) (a 1) 0 0 21) 21 = 0
    rw [sA_congr 21 hs]; exact hF.1
  · rw [Nat.sub_self]; exact Nat.le_refl _
def gC (G : List (Nm × Tr)) : Nat := (G.map (fun x => kc (tW x.1) + kc x.2)).sum
def pC (P : List Proc) : Nat := (P.map (fun p => kc (tW p.1) + kc (tL (p.2.1.map tW)) + kc p.2.2)).sum
/-- roots are moved, one behind the other -/
def RT (g : Nat → Nat) (i : Nat → Int32) (a : Nat → Nat → Int32) (f0 : Nat → Int32) (T S Z : Nat) (g' : Nat → Nat) (i' : Nat → Int32) (a' : Nat → Nat → Int32) (k : Nat × Nat) (S' Z' : Nat) (rows : List Nat) : Prop := CS g' i' a' f0 T S' 21 Z' ∧ S ≤ S' ∧ (∀ t v, mV (a 1) S 21 f0 T t none v → mV (a' 1) S' 21 f0 T t none v) ∧ sGrow g g' k ∧ (∀ q, q ≠ 9 → i' q = i q) ∧ (∀ q, q ≠ 0 → q ≠ 1 → q ∉ rows → a' q = a q)
theorem RT_refl {g : Nat → Nat} {i : Nat → Int32} {a : Nat → Nat → Int32} {f0 : Nat → Int32} {T S Z : Nat} {rows : List Nat} (h : CS g i a f0 T S 21 Z) : RT g i a f0 T S Z g i a (0, 0) S Z rows := ⟨h, Nat.le_refl _, fun _ _ h => h, sGrow_refl h.2.2.2.2.2.1, fun _ _ => rfl, fun _ _ _ _ => rfl⟩
theorem RT_trans {g g1 g2 : Nat → Nat} {i i1 i2 : Nat → Int32} {a a1 a2 : Nat → Nat → Int32} {f0 : Nat → Int32} {T S Z S1 Z1 S2 Z2 : Nat} {k k1 : Nat × Nat} {rows : List Nat} (h : RT g i a f0 T S Z g1 i1 a1 k S1 Z1 rows) (h' : RT g1 i1 a1 f0 T S1 Z1 g2 i2 a2 k1 S2 Z2 rows) : RT g i a f0 T S Z g2 i2 a2 (k.1 + k1.1, k.2 + k1.2) S2 Z2 rows := by
  obtain ⟨x1, x2, x3, x5, x6, x7⟩ := h
  obtain ⟨y1, y2, y3, y5, y6, y7⟩ := h'
  exact ⟨y1, by omega, fun t v q => y3 t v (x3 t v q), sGrow_trans x5 y5, fun q hq => (y6 q hq).trans (x6 q hq), fun q h0 h1 h2 => (y7 q h0 h1 h2).trans (x7 q h0 h1 h2)⟩
/-- one root: it stands in row w at j -/
theorem h_rootM {n : Nat} {g : Nat → Nat} {i : Nat → Int32} {a : Nat → Nat → Int32} {f0 : Nat → Int32} {T S Z w j : Nat} {t : Tr} {rows : List Nat} (hn : 1000 ≤ n) (hF : FX f0) (h : CS g i a f0 T S 21 Z) (hv : cV f0 T t none (a w j)) (hZ : Z + kc t ≤ 340000) (hw : w ≠ 0 ∧ w ≠ 1 ∧ w ∈ rows ∧ 9 < w) : ∃ i' a' g' k x S', m_Heap_moved n g i a (a w j) = some (i', a', g', k, x) ∧ RT g i a f0 T S Z g' i' (sv a' w j x) k S' (Z + kc t) rows ∧ mV (sv a' w j x 1) S' 21 f0 T t none (sv a' w j x w j) ∧ (∀ q, q ≠ 0 → q ≠ 1 → a' q = a q) ∧ ∀ y, y ≠ j → sv a' w j x w y = a w y := by
  obtain ⟨i', a', g', k, x, S', z1, z2, z3, z4, z5, z6, z7, z8⟩ := h_moved (n := n) hn hF h hv (by have := CS_SZ h; omega)
  have e0 : sv a' w j x 0 = a' 0 := updA_ne (fun e => hw.1 e.symm)
  have e1 : sv a' w j x 1 = a' 1 := updA_ne (fun e => hw.2.1 e.symm)
  have el : ∀ q, q ≤ 9 → sv a' w j x q = a' q := fun q hq => updA_ne (by omega)
  refine ⟨i', a', g', k, x, S', z1, ⟨⟨?_, z2.2.1, z2.2.2.1, z2.2.2.2.1, z2.2.2.2.2.1, z2.2.2.2.2.2.1, z2.2.2.2.2.2.2.1, z2.2.2.2.2.2.2.2.1, ?_⟩, z3, fun t v q => ?_, z6, z7, fun q h0 h1 h2 => ?_⟩, ?_, z8, fun y hy => ?_⟩
  · rw [e0, e1]; exact z2.1
  · have := z2.2.2.2.2.2.2.2.2
    unfold lexOk at this ⊢
    rw [el 5 (by decide), el 6 (by decide), el 7 (by decide), el 8 (by decide), el 9 (by decide)]
    exact this
  · rw [e1]; exact mV_grow z3 z4 q
  · show updA a' w _ q = a q
    have hne : ¬ q = w := fun e => h2 (by rw [e]; exact hw.2.2.1)
    rw [updA_ne hne]; exact z8 q h0 h1
  · rw [e1]
    show mV (a' 1) S' 21 f0 T t none (updA a' w (upd (a' w) j x) w j)
    rw [updA_at, upd_at]; exact z5
  · show updA a' w (upd (a' w) j x) w y = a w y
    rw [updA_at, upd_ne hy, z8 w hw.1 hw.2.1]
theorem h_names_b {n : Nat} {f0 : Nat → Int32} {T : Nat} {G : List (Nm × Tr)} (hn : 1000 ≤ n) (hF : FX f0) (hG : G.length ≤ 64) : ∀ (m k f : Nat) (g : Nat → Nat) (i : Nat → Int32) (a : Nat → Nat → Int32) (S Z : Nat), G.length = k + m → m < f → i 12 = nI G.length → (∀ j (h : j < G.length), j < k → mV (a 1) S 21 f0 T (tW (G[j]'h).1) none (a 10 j) ∧ mV (a 1) S 21 f0 T (G[j]'h).2 none (a 11 j)) → (∀ j (h : j < G.length), k ≤ j → cV f0 T (tW (G[j]'h).1) none (a 10 j) ∧ cV f0 T (G[j]'h).2 none (a 11 j)) → CS g i a f0 T S 21 Z → Z + gC (G.drop k) ≤ 340000 → ∃ i' a' g' kk S', m_Names_moveAll_b2 n f i a g (nI k) = some (i', a', g', kk, nI 0) ∧ RT g i a f0 T S Z g' i' a' kk S' (Z + gC (G.drop k)) [10, 11] ∧ ∀ j (h : j < G.length), mV (a' 1) S' 21 f0 T (tW (G[j]'h).1) none (a' 10 j) ∧ mV (a' 1) S' 21 f0 T (G[j]'h).2 none (a' 11 j) := by
  intro m
  induction m with
  | zero =>
    intro k f g i a S Z e hf h12 hd hl h hZ
    obtain ⟨f, rfl⟩ : ∃ f', f = f' + 1 := ⟨f - 1, by omega⟩
    have e0 : gC (G.drop k) = 0 := by rw [List.drop_of_length_le (by omega)]; rfl
    rw [m_Names_moveAll_b2, h12, ile_p (by omega), e0]
    exact ⟨i, a, g, (0, 0), S, rfl, RT_refl h, fun j hj => hd j hj (by omega)⟩
  | succ m ih =>
    intro k f g i a S Z e hf h12 hd hl h hZ
    obtain ⟨f, rfl⟩ : ∃ f', f = f' + 1 := ⟨f - 1, by omega⟩
    have hk : k < G.length := by omega
    have ed : gC (G.drop k) = kc (tW (G[k]'hk).1) + kc (G[k]'hk).2 + gC (G.drop (k + 1)) := by
      rw [List.drop_eq_getElem_cons hk]; unfold gC; rw [List.map_cons, List.sum_cons]
    rw [ed] at hZ ⊢
    obtain ⟨v1, v2⟩ := hl k hk (Nat.le_refl _)
    obtain ⟨i1, a1, g1, k1, x1, S1, p1, p2, p3, p4, p5⟩ := h_rootM (n := n) (w := 10) (j := k) (rows := [10, 11]) hn hF h v1 (by omega) (by decide)
    have e11 : sv a1 10 k x1 11 k = a 11 k := by
      show updA a1 10 _ 11 k = _
      rw [updA_ne (by decide), p4 11 (by decide) (by decide)]
    obtain ⟨i2, a2, g2, k2, x2, S2, r1, r2, r3, r4, r5⟩ := h_rootM (n := n) (w := 11) (j := k) (rows := [10, 11]) (a := sv a1 10 k x1) hn hF p2.1 (by rw [e11]; exact v2) (by omega) (by decide)
    have rt := RT_trans p2 r2
    have a10 : ∀ y, sv a2 11 k x2 10 y = sv a1 10 k x1 10 y := fun y => by
      show updA a2 11 _ 10 y = _
      rw [updA_ne (by decide), r4 10 (by decide) (by decide)]
    obtain ⟨i', a', g', kk, S', w1, w2, w3⟩ := ih (k + 1) f g2 i2 (sv a2 11 k x2) S2 (Z + kc (tW (G[k]'hk).1) + kc (G[k]'hk).2) (by omega) (by omega) (by rw [rt.2.2.2.2.1 12 (by decide)]; exact h12) (fun j hj hjk => by
      rcases Nat.eq_or_lt_of_le (Nat.le_of_lt_succ hjk) with d | d
      · subst d
        refine ⟨?_, r3⟩
        rw [a10]
        exact r2.2.2.1 _ _ p3
      · obtain ⟨b1, b2⟩ := hd j hj d
        refine ⟨?_, ?_⟩
        · rw [a10, p5 j (by omega)]; exact rt.2.2.1 _ _ b1
        · rw [r5 j (by omega)]
          show mV _ S2 21 f0 T _ none (updA a1 10 _ 11 j)
          rw [updA_ne (by decide), p4 11 (by decide) (by decide)]
          exact rt.2.2.1 _ _ b2) (fun j hj hjk => by
      obtain ⟨b1, b2⟩ := hl j hj (by omega)
      refine ⟨?_, ?_⟩
      · rw [a10, p5 j (by omega)]; exact b1
      · rw [r5 j (by omega)]
        show cV f0 T _ none (updA a1 10 _ 11 j)
        rw [updA_ne (by decide), p4 11 (by decide) (by decide)]
        exact b2) r2.1 (by omega)
    refine ⟨i', a', g', (k1.1 + (k2.1 + kk.1), k1.2 + (k2.2 + kk.2)), S', ?_, ?_, w3⟩
    · rw [m_Names_moveAll_b2, h12, ile_n (by omega), ck_n (by omega), cl_n (by omega), p1]
      refine obG_s (k' := (k2.1 + kk.1, k2.2 + kk.2)) ?_
      rw [ck_n (by omega), ob1_s, ck_n (by omega), r1]
      refine obG_s ?_
      rw [ck_n (by omega), ob1_s, show (1 : Int32) = nI 1 from rfl, nI_add, ob1_s]
      exact w1
    · have := RT_trans rt w2
      rw [show Z + (kc (tW (G[k]'hk).1) + kc (G[k]'hk).2 + gC (G.drop (k + 1))) = Z + kc (tW (G[k]'hk).1) + kc (G[k]'hk).2 + gC (G.drop (k + 1)) by omega, show k1.1 + (k2.1 + kk.1) = k1.1 + k2.1 + kk.1 by omega, show k1.2 + (k2.2 + kk.2) = k1.2 + k2.2 + kk.2 by omega]
      exact this
theorem h_procs_b {n : Nat} {f0 : Nat → Int32} {T : Nat} {G : List Proc} (hn : 1000 ≤ n) (hF : FX f0) (hG : G.length ≤ 40) : ∀ (m k f : Nat) (g : Nat → Nat) (i : Nat → Int32) (a : Nat → Nat → Int32) (S Z : Nat), G.length = k + m → m < f → i 15 = nI G.length → (∀ j (h : j < G.length), j < k → mV (a 1) S 21 f0 T (tW (G[j]'h).1) none (a 15 j) ∧ mV (a 1) S 21 f0 T (tL ((G[j]'h).2.1.map tW)) none (a 16 j) ∧ mV (a 1) S 21 f0 T (G[j]'h).2.2 none (a 17 j)) → (∀ j (h : j < G.length), k ≤ j → cV f0 T (tW (G[j]'h).1) none (a 15 j) ∧ cV f0 T (tL ((G[j]'h).2.1.map tW)) none (a 16 j) ∧ cV f0 T (G[j]'h).2.2 none (a 17 j)) → CS g i a f0 T S 21 Z → Z + pC (G.drop k) ≤ 340000 → ∃ i' a' g' kk S', m_Procedures_moveAll_b2 n f i a g (nI k) = some (i', a', g', kk, nI 0) ∧ RT g i a f0 T S Z g' i' a' kk S' (Z + pC (G.drop k)) [15, 16, 17] ∧ ∀ j (h : j < G.length), mV (a' 1) S' 21 f0 T (tW (G[j]'h).1) none (a' 15 j) ∧ mV (a' 1) S' 21 f0 T (tL ((G[j]'h).2.1.map tW)) none (a' 16 j) ∧ mV (a' 1) S' 21 f0 T (G[j]'h).2.2 none (a' 17 j) := by
  intro m
  induction m with
  | zero =>
    intro k f g i a S Z e hf h12 hd hl h hZ
    obtain ⟨f, rfl⟩ : ∃ f', f = f' + 1 := ⟨f - 1, by omega⟩
    have e0 : pC (G.drop k) = 0 := by rw [List.drop_of_length_le (by omega)]; rfl
    rw [m_Procedures_moveAll_b2, h12, ile_p (by omega), e0]
    exact ⟨i, a, g, (0, 0), S, rfl, RT_refl h, fun j hj => hd j hj (by omega)⟩
  | succ m ih =>
    intro k f g i a S Z e hf h12 hd hl h hZ
    obtain ⟨f, rfl⟩ : ∃ f', f = f' + 1 := ⟨f - 1, by omega⟩
    have hk : k < G.length := by omega
    have ed : pC (G.drop k) = kc (tW (G[k]'hk).1) + kc (tL ((G[k]'hk).2.1.map tW)) + kc (G[k]'hk).2.2 + pC (G.drop (k + 1)) := by
      rw [List.drop_eq_getElem_cons hk]; unfold pC; rw [List.map_cons, List.sum_cons]
    rw [ed] at hZ ⊢
    obtain ⟨v1, v2, v3⟩ := hl k hk (Nat.le_refl _)
    obtain ⟨i1, a1, g1, k1, x1, S1, p1, p2, p3, p4, p5⟩ := h_rootM (n := n) (w := 15) (j := k) (rows := [15, 16, 17]) hn hF h v1 (by omega) (by decide)
    have o1 : ∀ q, q ≠ 0 → q ≠ 1 → q ≠ 15 → ∀ y, sv a1 15 k x1 q y = a q y := fun q h0 h1 h2 y => by
      show updA a1 15 _ q y = _
      rw [updA_ne h2, p4 q h0 h1]
    obtain ⟨i2, a2, g2, k2, x2, S2, r1, r2, r3, r4, r5⟩ := h_rootM (n := n) (w := 16) (j := k) (rows := [15, 16, 17]) (a := sv a1 15 k x1) hn hF p2.1 (by rw [o1 16 (by decide) (by decide) (by decide)]; exact v2) (by omega) (by decide)
    have o2 : ∀ q, q ≠ 0 → q ≠ 1 → q ≠ 16 → ∀ y, sv a2 16 k x2 q y = sv a1 15 k x1 q y := fun q h0 h1 h2 y => by
      show updA a2 16 _ q y = _
      rw [updA_ne h2, r4 q h0 h1]
    obtain ⟨i3, a3, g3, k3, x3, S3, s1, s2, s3, s4, s5⟩ := h_rootM (n := n) (w := 17) (j := k) (rows := [15, 16, 17]) (a := sv a2 16 k x2) hn hF r2.1 (by rw [o2 17 (by decide) (by decide) (by decide), o1 17 (by decide) (by decide) (by decide)]; exact v3) (by omega) (by decide)
    have o3 : ∀ q, q ≠ 0 → q ≠ 1 → q ≠ 17 → ∀ y, sv a3 17 k x3 q y = sv a2 16 k x2 q y := fun q h0 h1 h2 y => by
      show updA a3 17 _ q y = _
      rw [updA_ne h2, s4 q h0 h1]
    have rt := RT_trans (RT_trans p2 r2) s2
    have f15 : ∀ y, sv a3 17 k x3 15 y = sv a1 15 k x1 15 y := fun y => by rw [o3 15 (by decide) (by decide) (by decide), o2 15 (by decide) (by decide) (by decide)]
    have f16 : ∀ y, sv a3 17 k x3 16 y = sv a2 16 k x2 16 y := fun y => by rw [o3 16 (by decide) (by decide) (by decide)]
    have n15 : ∀ y, y ≠ k → sv a3 17 k x3 15 y = a 15 y := fun y hy => by rw [f15, p5 y hy]
    have n16 : ∀ y, y ≠ k → sv a3 17 k x3 16 y = a 16 y := fun y hy => by rw [f16, r5 y hy, o1 16 (by decide) (by decide) (by decide)]
    have n17 : ∀ y, y ≠ k → sv a3 17 k x3 17 y = a 17 y := fun y hy => by rw [s5 y hy, o2 17 (by decide) (by decide) (by decide), o1 17 (by decide) (by decide) (by decide)]
    obtain ⟨i', a', g', kk, S', w1, w2, w3⟩ := ih (k + 1) f g3 i3 (sv a3 17 k x3) S3 (Z + kc (tW (G[k]'hk).1) + kc (tL ((G[k]'hk).2.1.map tW)) + kc (G[k]'hk).2.2) (by omega) (by omega) (by rw [rt.2.2.2.2.1 15 (by decide)]; exact h12) (fun j hj hjk => by
      rcases Nat.eq_or_lt_of_le (Nat.le_of_lt_succ hjk) with d | d
      · subst d
        refine ⟨?_, ?_, s3⟩
        · rw [f15]; exact s2.2.2.1 _ _ (r2.2.2.1 _ _ p3)
        · rw [f16]; exact s2.2.2.1 _ _ r3
      · obtain ⟨b1, b2, b3⟩ := hd j hj d
        rw [n15 j (by omega), n16 j (by omega), n17 j (by omega)]
        exact ⟨rt.2.2.1 _ _ b1, rt.2.2.1 _ _ b2, rt.2.2.1 _ _ b3⟩) (fun j hj hjk => by
      rw [n15 j (by omega), n16 j (by omega), n17 j (by omega)]
      exact hl j hj (by omega)) s2.1 (by omega)
    refine ⟨i', a', g', (k1.1 + (k2.1 + (k3.1 + kk.1)), k1.2 + (k2.2 + (k3.2 + kk.2))), S', ?_, ?_, w3⟩
    · rw [m_Procedures_moveAll_b2, h12, ile_n (by omega), ck_n (by omega), cl_n (by omega), p1]
      refine obG_s (k' := (k2.1 + (k3.1 + kk.1), k2.2 + (k3.2 + kk.2))) ?_
      rw [ck_n (by omega), ob1_s, ck_n (by omega), r1]
      refine obG_s (k' := (k3.1 + kk.1, k3.2 + kk.2)) ?_
      rw [ck_n (by omega), ob1_s, ck_n (by omega), s1]
      refine obG_s ?_
      rw [ck_n (by omega), ob1_s, show (1 : Int32) = nI 1 from rfl, nI_add, ob1_s]
      exact w1
    · have := RT_trans rt w2
      rw [show Z + (kc (tW (G[k]'hk).1) + kc (tL ((G[k]'hk).2.1.map tW)) + kc (G[k]'hk).2.2 + pC (G.drop (k + 1))) = Z + kc (tW (G[k]'hk).1) + kc (tL ((G[k]'hk).2.1.map tW)) + kc (G[k]'hk).2.2 + pC (G.drop (k + 1)) by omega, show k1.1 + (k2.1 + (k3.1 + kk.1)) = k1.1 + k2.1 + k3.1 + kk.1 by omega, show k1.2 + (k2.2 + (k3.2 + kk.2)) = k1.2 + k2.2 + k3.2 + kk.2 by omega]
      exact this
/-- all is moved; then the rows change places -/
theorem h_collect {n : Nat} {g : Nat → Nat} {i : Nat → Int32} {a : Nat → Nat → Int32} {T : Nat} {tl : Tr} {G : List (Nm × Tr)} {Q : List Proc} (hn : 400000 ≤ n) (hF : FX (a 0)) (h7 : i 7 = nI 21) (hT : T ≤ g 0) (hg0 : 16384 ≤ g 0) (hg : g 0 ≤ 340000) (hg1 : 16384 ≤ g 1) (hg2 : g 1 ≤ 340000) (hx : lexOk a) (htl : cV (a 0) T tl none (i 27)) (hG : rGlob (a 0) T (i 12) (a 10) (a 11) G) (hQ : rProc (a 0) T (i 15) (a 15) (a 16) (a 17) Q) (hZ : 21 + kc tl + gC G + pC Q ≤ 340000) : ∃ i' a' g' k S', m_World_collect n g i a = some (i', a', g', k, nI 0) ∧ i' 8 = nI S' ∧ 21 ≤ S' ∧ S' ≤ 21 + kc tl + gC G + pC Q ∧ S' ≤ g' 0 ∧ 16384 ≤ g' 0 ∧ g' 0 ≤ 340000 ∧ 16384 ≤ g' 1 ∧ g' 1 ≤ 340000 ∧ sA (a' 0) S' = 0 ∧ (∀ x, x < 21 → a' 0 x = a 0 x) ∧ cV (a' 0) S' tl none (i' 0) ∧ rGlob (a' 0) S' (i' 12) (a' 10) (a' 11) G ∧ rProc (a' 0) S' (i' 15) (a' 15) (a' 16) (a' 17) Q ∧ (∀ q, q ≠ 0 → q ≠ 8 → q ≠ 9 → i' q = i q) ∧ (∀ q, q ≠ 0 → q ≠ 1 → q ∉ [10, 11, 15, 16, 17] → a' q = a q) ∧ 16384 * k.1 ≤ k.2 ∧ k.2 + gPot g ≤ gPot g' := by
  obtain ⟨b1, b2⟩ := h_beginC (n := n) (i := i) (T := T) hF h7 hT hg0 hg hg1 hg2 hx
  have hZ1 : 21 + kc tl ≤ 340000 := by omega
  obtain ⟨i1, a1, g1, k1, x, S1, z1, z2, z3, z4, z5, z6, z7, z8⟩ := h_moved (n := n) (v := i 27) (by omega) hF b2 htl hZ1
  have cs1 : CS g1 (upd i1 0 x) a1 (a 0) T S1 21 (21 + kc tl) := ⟨z2.1, z2.2.1, z2.2.2.1, z2.2.2.2⟩
  have oa : ∀ q, q ≠ 0 → q ≠ 1 → a1 q = a q := fun q h0 h1 => (z8 q h0 h1).trans (updA_ne h1)
  have oi : ∀ q, q ≠ 9 → i1 q = i q := fun q h => (z7 q h).trans (upd_ne h)
  have e12 : (upd i1 0 x) 12 = nI G.length := (oi 12 (by decide)).trans hG.1
  have e15 : (upd i1 0 x) 15 = nI Q.length := (oi 15 (by decide)).trans hQ.1
  have d0 : gC (G.drop 0) = gC G := by rw [List.drop_zero]
  have d1 : pC (Q.drop 0) = pC Q := by rw [List.drop_zero]
  obtain ⟨i2, a2, g2, k2, S2, p1, p2, p3⟩ := h_names_b (n := n) (G := G) (by omega) hF hG.2.1 G.length 0 n g1 (upd i1 0 x) a1 S1 (21 + kc tl) (by omega) (by have := hG.2.1; omega) e12 (fun j hj h => absurd h (Nat.not_lt_zero j)) (fun j hj _ => by rw [oa 10 (by decide) (by decide), oa 11 (by decide) (by decide)]; exact hG.2.2 j hj) cs1 (by rw [d0]; omega)
  rw [d0] at p2
  obtain ⟨i3, a3, g3, k3, S3, r1, r2, r3⟩ := h_procs_b (n := n) (G := Q) (by omega) hF hQ.2.1 Q.length 0 n g2 i2 a2 S2 (21 + kc tl + gC G) (by omega) (by have := hQ.2.1; omega) (by rw [p2.2.2.2.2.1 15 (by decide)]; exact e15) (fun j hj h => absurd h (Nat.not_lt_zero j)) (fun j hj _ => by rw [p2.2.2.2.2.2 15 (by decide) (by decide) (by decide), p2.2.2.2.2.2 16 (by decide) (by decide) (by decide), p2.2.2.2.2.2 17 (by decide) (by decide) (by decide), oa 15 (by decide) (by decide), oa 16 (by decide) (by decide), oa 17 (by decide) (by decide)]; exact hQ.2.2 j hj) p2.1 (by rw [d1]; exact hZ)
  rw [d1] at r2
  have hA0 : sA (a3 1) 21 = 0 := by
    rw [sA_congr (f := a 0) 21 r2.1.1.2.1]
    exact hF.1
  obtain ⟨i4, a4, g4, k4, S4, w1, w2⟩ := h_scan_b (n := n) hn hF hZ 340000 21 n 0 g3 i3 a3 S3 (by omega) (by omega) (by omega) hA0 r2.1
  obtain ⟨cC, c9, c7, cS, cg1, cg2, cT, cg, cx⟩ := id w2.1
  have fin : ∀ t v, mV (a4 1) S4 S4 (a 0) T t none v → cV (a4 1) S4 t none v := fun t v h => (mV_end t).1 v h
  have oi4 : ∀ q, q ≠ 9 → i4 q = upd i1 0 x q := fun q h => (w2.2.2.2.2.2.1 q h).trans ((r2.2.2.2.2.1 q h).trans (p2.2.2.2.2.1 q h))
  have oa4 : ∀ q, q ≠ 0 → q ≠ 1 → a4 q = a3 q := w2.2.2.2.2.2.2
  have oa3 : ∀ q, q ≠ 0 → q ≠ 1 → q ∉ [15, 16, 17] → a3 q = a2 q := r2.2.2.2.2.2
  have oa2 : ∀ q, q ≠ 0 → q ≠ 1 → q ∉ [10, 11] → a2 q = a1 q := p2.2.2.2.2.2
  have sg := sGrow_trans z6 (sGrow_trans p2.2.2.2.1 (sGrow_trans r2.2.2.2.1 w2.2.2.2.2.1))
  have ep : gPot (sw g4) = gPot g4 := by
    show hPot (g4 1) + hPot (g4 0) = hPot (g4 0) + hPot (g4 1)
    omega
  refine ⟨upd i4 8 (nI S4), sw a4, sw g4, _, S4, ?_, rfl, ?_, CS_SZ w2.1, cS, cg1, cg2, ?_, cg, cC.2.2.1, cC.2.1, ?_, ?_, ?_, fun q h0 h8 h9 => ?_, fun q h0 h1 h2 => ?_, sg.2.2.2.1, by rw [ep]; exact sg.2.2.2.2⟩
  · unfold m_World_collect
    rw [b1, ob_s]
    show obG (m_Heap_moved n g (upd i 9 (nI 21)) (updA a 1 (va_cpy (a 0) (a 1) 0 0 21)) (i 27)) _ = _
    rw [z1]
    refine obG_s ?_
    rw [ob1_s]
    unfold m_Names_moveAll
    rw [show (0 : Int32) = nI 0 from rfl, p1]
    refine obG_s ?_
    unfold m_Procedures_moveAll
    rw [show (0 : Int32) = nI 0 from rfl, r1]
    refine obG_s (k' := (k4.1 + 0, k4.2 + 0)) ?_
    have eE : m_Heap_endCollecting n g3 i3 a3 = some (upd i4 8 (nI S4), sw a4, sw g4, k4, nI 0) := by
      unfold m_Heap_endCollecting
      have e7 : i3 7 = nI 21 := r2.1.2.2.1
      rw [ob1_s, e7, show (0 : Int32) = nI 0 from rfl]
      exact w1
    rw [eE]
    exact obG_s (k' := (0, 0)) rfl
  · have := cC.2.2.2.1
    have := cC.2.2.2.2.1
    omega
  · show 16384 ≤ g4 0
    have e1 : g4 0 = g 0 := sg.1
    omega
  · show cV (a4 1) S4 tl none (i4 0)
    rw [oi4 0 (by decide), upd_at]
    exact fin _ _ (w2.2.2.1 _ _ (r2.2.2.1 _ _ (p2.2.2.1 _ _ z5)))
  · refine ⟨?_, hG.2.1, fun j hj => ?_⟩
    · show i4 12 = _
      rw [oi4 12 (by decide)]; exact e12
    · show cV (a4 1) S4 _ none (a4 10 j) ∧ cV (a4 1) S4 _ none (a4 11 j)
      rw [oa4 10 (by decide) (by decide), oa4 11 (by decide) (by decide), oa3 10 (by decide) (by decide) (by decide), oa3 11 (by decide) (by decide) (by decide)]
      exact ⟨fin _ _ (w2.2.2.1 _ _ (r2.2.2.1 _ _ (p3 j hj).1)), fin _ _ (w2.2.2.1 _ _ (r2.2.2.1 _ _ (p3 j hj).2))⟩
  · refine ⟨?_, hQ.2.1, fun j hj => ?_⟩
    · show i4 15 = _
      rw [oi4 15 (by decide)]; exact e15
    · show cV (a4 1) S4 _ none (a4 15 j) ∧ cV (a4 1) S4 _ none (a4 16 j) ∧ cV (a4 1) S4 _ none (a4 17 j)
      rw [oa4 15 (by decide) (by decide), oa4 16 (by decide) (by decide), oa4 17 (by decide) (by decide)]
      exact ⟨fin _ _ (w2.2.2.1 _ _ (r3 j hj).1), fin _ _ (w2.2.2.1 _ _ (r3 j hj).2.1), fin _ _ (w2.2.2.1 _ _ (r3 j hj).2.2)⟩
  · rw [upd_ne h8, oi4 q h9, upd_ne h0, oi q h9]
  · show (if q = 0 then a4 1 else if q = 1 then a4 0 else a4 q) = a q
    simp only [List.mem_cons, List.not_mem_nil, or_false, not_or] at h2
    rw [if_neg h0, if_neg h1, oa4 q h0 h1, oa3 q h0 h1 (by simp only [List.mem_cons, List.not_mem_nil, or_false, not_or]; omega), oa2 q h0 h1 (by simp only [List.mem_cons, List.not_mem_nil, or_false, not_or]; omega), oa q h0 h1]

