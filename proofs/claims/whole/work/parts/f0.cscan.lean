/-! the collector goes through the spare cells -/
theorem h_moved {n : Nat} {g : Nat → Nat} {i : Nat → Int32} {a : Nat → Nat → Int32} {f0 : Nat → Int32} {T S A Z : Nat} {t : Tr} {v : Int32} (hn : 1000 ≤ n) (hF : FX f0) (h : CS g i a f0 T S A Z) (hv : cV f0 T t none v) (hZ : S + kc t ≤ 340000) : MR g i a f0 T S A Z t (m_Heap_moved n g i a v) := by
  obtain ⟨hC, h9, h7, hS, hg1, hg2, hT, hg, hx⟩ := id h
  obtain ⟨c1, c2, c3, c4, c5, c6, c7, c10, tr, c8, c9⟩ := id hC
  obtain ⟨k1, k2, k3⟩ := cV_kinds (by omega) hv n
  unfold m_Heap_moved
  rw [ob1_s, k3, ob0_s]
  simp only [i32_lit]
  rw [b1_z]
  rcases cV_cases hv with ⟨k, rfl, h1, h2, rfl⟩ | ⟨l, p, rfl, rfl, h3⟩ | ⟨ms, p, rfl, rfl, h3, h4⟩
  · rw [isN_tN, if_pos rfl]
    exact ⟨i, a, g, (0, 0), _, S, rfl, CS_more h (by omega), Nat.le_refl _, fun _ _ => rfl, mV_tN.mpr ⟨h1, h2, rfl⟩, sGrow_refl hg2, fun _ _ => rfl, fun _ _ _ => rfl⟩
  · have q4 := h3.2.2.2.1
    rw [isN_tW, if_neg (by decide), sh_w (by omega), h7]
    rcases Nat.lt_or_ge p 21 with c | c
    · rw [ilt_p (by omega)]
      have hin := sA_in h3.1 (cWd_sA h3) h3.2.2.2.2.1 h3.2.2.2.2.2.1
      have hl : p + l.length < 21 := by
        rcases Nat.lt_or_ge (p + l.length) 21 with d | d
        · exact d
        · have := hin (21 - p) (by omega)
          rw [show p + (21 - p) = 21 by omega, hF.1] at this
          cases this
      have hw : cWd f0 21 p l := ⟨h3.1, h3.2.1, h3.2.2.1, hl, h3.2.2.2.2⟩
      exact ⟨i, a, g, (0, 0), _, S, rfl, CS_more h (by omega), Nat.le_refl _, fun _ _ => rfl, mV_tW.mpr ⟨p, rfl, cWd_mono (by omega) c2 hw⟩, sGrow_refl hg2, fun _ _ => rfl, fun _ _ _ => rfl⟩
    · rw [ilt_n (by omega), ilt_p (by omega), k2, ob0_s, b1_z, isL_tW, if_neg (by decide)]
      obtain ⟨i', a', g', k, x, S', z1, z2⟩ := h_movedWord hn h c h3 hZ
      rw [z1]
      exact ⟨i', a', g', (k.1 + 0, k.2 + 0), x, S', obG_s (k' := (0, 0)) rfl, z2⟩
  · have q4 := h3.2.1
    rw [isN_tL, if_neg (by decide), sh_l (by omega), h7]
    have hp : 21 ≤ p := by
      rcases Nat.lt_or_ge p 21 with d | d
      · obtain ⟨⟨q1, q0⟩, q2, q3, q4, q5⟩ := h3
        have := hF.2 p q1 d
        rw [q5, cl_n (by omega)] at this
        omega
      · exact d
    rw [ilt_n (by omega), ilt_p (by omega), k2, ob0_s, b1_z, isL_tL, if_pos rfl]
    obtain ⟨i', a', g', k, x, S', z1, z2⟩ := h_movedList hn h hp ⟨h3, h4⟩ hZ
    rw [z1]
    exact ⟨i', a', g', (k.1 + 0, k.2 + 0), x, S', obG_s (k' := (0, 0)) rfl, z2⟩
theorem COL_scan {f0 f s : Nat → Int32} {T S A Z : Nat} {t : Tr} {x : Int32} (hT : T ≤ 340000) (h : COL f0 T f s S A (Z + kc t)) (hA : A < S) (h2 : 2 ≤ sA s A) (hv : cV f0 T t none (s A)) (hx : mV s S A f0 T t none x) : COL f0 T f (upd s A x) S (A + 1) Z ∧ ∀ t' v', mV s S A f0 T t' none v' → mV (upd s A x) S (A + 1) f0 T t' none v' := by
  obtain ⟨c1, c2, c3, c4, c5, c6, c7, c10, tr, c8, c9⟩ := h
  have hsc : ∀ t' v', mV s S A f0 T t' none v' → mV (upd s A x) S (A + 1) f0 T t' none v' := fun t' v' h => mV_scan h2 (fun m hm => by rw [cV_same hT hm hv]; exact hx) h
  refine ⟨⟨c1, fun y hy => by rw [upd_ne (by omega)]; exact c2 y hy, by rw [sA_mem h2]; exact c3, by omega, by omega, fun p ms hp hl => ?_, fun p l hp hl hz => ?_, fun y hy1 hy2 hy3 => ?_, tr, fun y hy1 hy2 hy3 => ?_, ?_⟩, hsc⟩
  · rcases c6 p ms hp hl with d | ⟨q, d1, d2, d3, d4⟩
    · exact Or.inl d
    · exact Or.inr ⟨q, d1, d2, d3, hsc _ _ d4⟩
  · rcases c7 p l hp hl hz with d | ⟨q, d1, d2, d3, d4⟩
    · exact Or.inl d
    · exact Or.inr ⟨q, d1, d2, d3, cWd_mem h2 d4⟩
  · rw [sA_mem h2] at hy3
    rw [upd_ne (fun e => by rw [e] at hy3; omega)]
    exact c10 y hy1 hy2 hy3
  · rw [sA_mem h2] at hy3
    rw [upd_ne (by omega)]
    exact c8 y (by omega) hy2 hy3
  · have e1 : S - A = (S - (A + 1)) + 1 := by omega
    rw [e1, pS_first, if_pos h2, cV_same hT (c8 A (Nat.le_refl _) hA h2) hv] at c9
    rw [pS_congr (s := s) (tr := tr) (S - (A + 1)) (fun y hy1 hy2 => ⟨sA_mem h2 y, fun _ => rfl⟩)]
    omega
theorem COL_pass {f0 f s : Nat → Int32} {T S A A' Z : Nat} (h : COL f0 T f s S A Z) (hA : A ≤ A') (hS : A' ≤ S) (hp : ∀ x, A ≤ x → x < A' → ¬ 2 ≤ sA s x) : COL f0 T f s S A' Z := by
  obtain ⟨c1, c2, c3, c4, c5, c6, c7, c10, tr, c8, c9⟩ := h
  refine ⟨c1, c2, c3, by omega, hS, fun p ms hp' hl => ?_, c7, c10, tr, fun y hy1 hy2 hy3 => c8 y (by omega) hy2 hy3, ?_⟩
  · rcases c6 p ms hp' hl with d | ⟨q, d1, d2, d3, d4⟩
    · exact Or.inl d
    · exact Or.inr ⟨q, d1, d2, d3, mV_pass hA hp d4⟩
  · have e1 : S - A = (A' - A) + (S - A') := by omega
    rw [e1, pS_add, pS_none (A' - A) (fun x hx1 hx2 => hp x hx1 (by omega)), show A + (A' - A) = A' by omega] at c9
    omega
/-- what a stretch of the collector comes to -/
def CT (g : Nat → Nat) (i : Nat → Int32) (a : Nat → Nat → Int32) (f0 : Nat → Int32) (T S A Z : Nat) (g' : Nat → Nat) (i' : Nat → Int32) (a' : Nat → Nat → Int32) (k : Nat × Nat) (S' A' Z' : Nat) : Prop := CS g' i' a' f0 T S' A' Z' ∧ S ≤ S' ∧ (∀ t v, mV (a 1) S A f0 T t none v → mV (a' 1) S' A' f0 T t none v) ∧ (∀ x, x ≤ S → sA (a' 1) x = sA (a 1) x) ∧ sGrow g g' k ∧ (∀ q, q ≠ 9 → i' q = i q) ∧ (∀ q, q ≠ 0 → q ≠ 1 → a' q = a q)
theorem CT_refl {g : Nat → Nat} {i : Nat → Int32} {a : Nat → Nat → Int32} {f0 : Nat → Int32} {T S A Z : Nat} (h : CS g i a f0 T S A Z) : CT g i a f0 T S A Z g i a (0, 0) S A Z := ⟨h, Nat.le_refl _, fun _ _ h => h, fun _ _ => rfl, sGrow_refl h.2.2.2.2.2.1, fun _ _ => rfl, fun _ _ _ => rfl⟩
theorem CT_trans {g g1 g2 : Nat → Nat} {i i1 i2 : Nat → Int32} {a a1 a2 : Nat → Nat → Int32} {f0 : Nat → Int32} {T S A Z S1 A1 Z1 S2 A2 Z2 : Nat} {k k1 : Nat × Nat} (h : CT g i a f0 T S A Z g1 i1 a1 k S1 A1 Z1) (h' : CT g1 i1 a1 f0 T S1 A1 Z1 g2 i2 a2 k1 S2 A2 Z2) : CT g i a f0 T S A Z g2 i2 a2 (k.1 + k1.1, k.2 + k1.2) S2 A2 Z2 := by
  obtain ⟨x1, x2, x3, x4, x5, x6, x7⟩ := h
  obtain ⟨y1, y2, y3, y4, y5, y6, y7⟩ := h'
  exact ⟨y1, by omega, fun t v q => y3 t v (x3 t v q), fun x hx => (y4 x (by omega)).trans (x4 x hx), sGrow_trans x5 y5, fun q hq => (y6 q hq).trans (x6 q hq), fun q h0 h1 => (y7 q h0 h1).trans (x7 q h0 h1)⟩
theorem CT_moved {g g' : Nat → Nat} {i i' : Nat → Int32} {a a' : Nat → Nat → Int32} {f0 : Nat → Int32} {T S A Z S' : Nat} {k : Nat × Nat} {t : Tr} (h1 : CS g' i' a' f0 T S' A (Z + kc t)) (h2 : S ≤ S') (h3 : ∀ y, y < S → a' 1 y = a 1 y) (h5 : sGrow g g' k) (h6 : ∀ q, q ≠ 9 → i' q = i q) (h7 : ∀ q, q ≠ 0 → q ≠ 1 → a' q = a q) : CT g i a f0 T S A Z g' i' a' k S' A (Z + kc t) :=
  ⟨h1, h2, fun t v q => mV_grow h2 h3 q, fun x hx => sA_congr x (fun y hy => h3 y (by omega)), h5, h6, h7⟩
theorem h_members_b {n : Nat} {f0 : Nat → Int32} {T E Z : Nat} (hn : 1000 ≤ n) (hF : FX f0) (hZ : Z ≤ 340000) : ∀ (m A f : Nat) (g : Nat → Nat) (i : Nat → Int32) (a : Nat → Nat → Int32) (S : Nat), E = A + m → m < f → E ≤ S → (∀ x, A ≤ x → x < E → 2 ≤ sA (a 1) x) → CS g i a f0 T S A Z → ∃ i' a' g' k S', m_Heap_moveMembers_b19 n f i a g (nI E) (nI A) = some (i', a', g', k, nI E) ∧ CT g i a f0 T S A Z g' i' a' k S' E Z := by
  intro m
  induction m with
  | zero =>
    intro A f g i a S e hf hS hm h
    obtain ⟨f, rfl⟩ : ∃ f', f = f' + 1 := ⟨f - 1, by omega⟩
    obtain rfl : E = A := by omega
    obtain ⟨hC, h9, h7, hS1, hg1, hg2, hT, hg, hx⟩ := id h
    rw [m_Heap_moveMembers_b19, ile_p (by omega)]
    exact ⟨i, a, g, (0, 0), S, rfl, CT_refl h⟩
  | succ m ih =>
    intro A f g i a S e hf hS hm h
    obtain ⟨f, rfl⟩ : ∃ f', f = f' + 1 := ⟨f - 1, by omega⟩
    obtain ⟨hC, h9, h7, hS1, hg1, hg2, hT, hg, hx⟩ := id h
    obtain ⟨c1, c2, c3, c4, c5, c6, c7, c10, tr, c8, c9⟩ := id hC
    have hA2 := hm A (Nat.le_refl _) (by omega)
    have hv := c8 A (Nat.le_refl _) (by omega) hA2
    have hk : S + kc (tr A) ≤ 340000 := by
      have e1 : S - A = (S - (A + 1)) + 1 := by omega
      rw [e1, pS_first, if_pos hA2] at c9
      omega
    obtain ⟨i1, a1, g1, k1, x, S1, z1, z2, z3, z4, z5, z6, z7, z8⟩ := h_moved (n := n) hn hF h hv hk
    have ct1 := CT_moved z2 z3 z4 z6 z7 z8
    obtain ⟨yC, y9, y7, yS1, yg1, yg2, yT, yg, yx⟩ := id z2
    have eA : a1 1 A = a 1 A := z4 A (by omega)
    have sAA : sA (a1 1) A = sA (a 1) A := ct1.2.2.2.1 A (by omega)
    obtain ⟨w1, w2⟩ := COL_scan (by omega) yC (by omega) (by rw [sAA]; exact hA2) (by rw [eA]; exact hv) z5
    have h2 : CS g1 i1 (sv a1 1 A x) f0 T S1 (A + 1) Z := ⟨w1, y9, y7, yS1, yg1, yg2, yT, yg, yx⟩
    have ct2 : CT g1 i1 a1 f0 T S1 A (Z + kc (tr A)) g1 i1 (sv a1 1 A x) (0, 0) S1 (A + 1) Z := ⟨h2, Nat.le_refl _, w2, fun y _ => sA_mem (by rw [sAA]; exact hA2) y, sGrow_refl yg2, fun _ _ => rfl, fun q h0 h1 => updA_ne h1⟩
    have ct := CT_trans ct1 ct2
    obtain ⟨i', a', g', k, S', w3, w4⟩ := ih (A + 1) f g1 i1 (sv a1 1 A x) S1 (by omega) (by omega) (by omega) (fun y hy1 hy2 => by rw [ct.2.2.2.1 y (by omega)]; exact hm y (by omega) hy2) h2
    refine ⟨i', a', g', (k1.1 + k.1, k1.2 + k.2), S', ?_, CT_trans ct w4⟩
    rw [m_Heap_moveMembers_b19, ile_n (by omega), ile_n (by omega), ck_n (by omega), cl_n (by omega), z1]
    refine obG_s ?_
    rw [ck_n (by omega), ob1_s, show (1 : Int32) = nI 1 from rfl, nI_add, ob1_s]
    exact w3
theorem hd_bit {z c : Nat} (hz : z < 131072) (hc : c ≤ 600) : ¬ nI (1073741824 + 8192 * z + c) &&& nI 1073741824 = nI 0 := by
  intro e
  have h1 := congrArg (fun x : Int32 => x.toBitVec.getLsbD 30) e
  rw [Int32.toBitVec_and, BitVec.getLsbD_and] at h1
  have e1 : (nI (1073741824 + 8192 * z + c)).toBitVec.getLsbD 30 = true := by
    show (BitVec.ofNat 32 (1073741824 + 8192 * z + c)).getLsbD 30 = true
    rw [BitVec.getLsbD_ofNat]
    have : Nat.testBit (1073741824 + 8192 * z + c) 30 = true := by
      rw [Nat.testBit_eq_decide_div_mod_eq]
      apply decide_eq_true
      omega
    rw [this]; rfl
  rw [e1] at h1
  exact absurd h1 (by decide)
set_option maxRecDepth 20000 in
theorem mk_bit {m : Nat} (hm : m < 400) : nI m &&& nI 1073741824 = nI 0 := by
  have q : ∀ m, m < 400 → nI m &&& nI 1073741824 = nI 0 := by decide +kernel
  exact q m hm
theorem h_behindW_b {n : Nat} {g : Nat → Nat} {i : Nat → Int32} {a : Nat → Nat → Int32} {S A : Nat} (h9 : i 9 = nI S) (hS : S ≤ g 1) (hg : g 1 ≤ 340000) (h0 : sA (a 1) S = 0) : ∀ (m x f : Nat), S = x + m → m < f → 1 ≤ x → sA (a 1) x = 1 → ∃ E, m_Heap_behindWord_b6 n g i a f (nI x) (nI x) = some (nI E) ∧ x < E ∧ E ≤ S ∧ sA (a 1) E = 0 ∧ ∀ y, x ≤ y → y < E → sA (a 1) y = 1 := by
  intro m
  induction m with
  | zero => intro x f e hf hx h1; rw [show S = x by omega, h1] at h0; cases h0
  | succ m ih =>
    intro x f e hf hx h1
    obtain ⟨f, rfl⟩ : ∃ f', f = f' + 1 := ⟨f - 1, by omega⟩
    rw [m_Heap_behindWord_b6, h9, ile_n (by omega), ck_n (by omega), cl_n (by omega)]
    simp only [i32_lit, nI_add]
    have hs := sA_succ (f := a 1) hx
    rw [h1, sStep, if_neg (by decide), if_pos rfl] at hs
    rcases Classical.em (a 1 x = nI 0) with c | c
    · rw [if_pos c] at hs ⊢
      exact ⟨x + 1, rfl, by omega, by omega, hs, fun y hy1 hy2 => by rw [show y = x by omega]; exact h1⟩
    · rw [if_neg c] at hs ⊢
      rw [ob1_s, ob1_s]
      obtain ⟨E, z1, z2, z3, z4, z5⟩ := ih (x + 1) f (by omega) (by omega) (by omega) hs
      exact ⟨E, z1, by omega, z3, z4, fun y hy1 hy2 => by
        rcases Nat.eq_or_lt_of_le hy1 with d | d
        · rw [← d]; exact h1
        · exact z5 y (by omega) hy2⟩
theorem h_scan_b {n : Nat} {f0 : Nat → Int32} {T Z : Nat} (hn : 400000 ≤ n) (hF : FX f0) (hZ : Z ≤ 340000) : ∀ (m A f q : Nat) (g : Nat → Nat) (i : Nat → Int32) (a : Nat → Nat → Int32) (S : Nat), 340000 ≤ A + m → m < f → q + m ≤ 400000 → sA (a 1) A = 0 → CS g i a f0 T S A Z → ∃ i' a' g' k S', m_Heap_endCollecting_b7 n f i a g (nI A) (nI q) = some (upd i' 8 (nI S'), sw a', sw g', k, nI 0) ∧ CT g i a f0 T S A Z g' i' a' k S' S' Z := by
  intro m
  induction m with
  | zero =>
    intro A f q g i a S e hf hq hA h
    obtain ⟨f, rfl⟩ : ∃ f', f = f' + 1 := ⟨f - 1, by omega⟩
    obtain ⟨hC, h9, h7, hS1, hg1, hg2, hT, hg, hx⟩ := id h
    have c5 := hC.2.2.2.2.1
    obtain rfl : A = S := by omega
    rw [m_Heap_endCollecting_b7, h9]
    simp only [i32_lit]
    rw [ile_n (by omega), ile_p (by omega)]
    unfold m_Heap_endCollecting_b53
    rw [ob1_s, ob1_s, ob1_s, ob1_s, h9]
    exact ⟨i, a, g, (0, 0), A, rfl, CT_refl h⟩
  | succ m ih =>
    intro A f q g i a S e hf hq hA h
    obtain ⟨f, rfl⟩ : ∃ f', f = f' + 1 := ⟨f - 1, by omega⟩
    obtain ⟨hC, h9, h7, hS1, hg1, hg2, hT, hg, hx⟩ := id h
    obtain ⟨c1, c2, c3, c4, c5, c6, c7, c10, tr, c8, c9⟩ := id hC
    rw [m_Heap_endCollecting_b7, h9]
    simp only [i32_lit]
    rw [ile_n (by omega)]
    rcases Nat.lt_or_ge A S with d | d
    rotate_left
    · obtain rfl : A = S := by omega
      rw [ile_p (by omega)]
      unfold m_Heap_endCollecting_b53
      rw [ob1_s, ob1_s, ob1_s, ob1_s, h9]
      exact ⟨i, a, g, (0, 0), A, rfl, CT_refl h⟩
    rw [ile_n (by omega), ck_n (by omega), cl_n (by omega)]
    rcases c10 A c4 d hA with ⟨z, c, hz, hc, ec⟩ | ⟨mk, hmk, ec⟩
    · rw [ec, if_neg (hd_bit hz hc)]
      have hst := sA_list (by omega) hA ec (by omega) hz
      have hE : A + 1 + c ≤ S := by
        rcases Nat.lt_or_ge S (A + 1 + c) with b | b
        · have := hst (S - (A + 1)) (by omega)
          rw [show A + 1 + (S - (A + 1)) = S by omega, c3, if_neg (by omega)] at this
          omega
        · exact b
      have ct0 : CT g i a f0 T S A Z g i a (0, 0) S (A + 1) Z := by
        have hp : ∀ x, A ≤ x → x < A + 1 → ¬ 2 ≤ sA (a 1) x := fun x hx1 hx2 => by rw [show x = A by omega, hA]; decide
        exact ⟨⟨COL_pass hC (by omega) (by omega) hp, h.2⟩, Nat.le_refl _, fun t v hv => mV_pass (by omega) hp hv, fun _ _ => rfl, sGrow_refl hg2, fun _ _ => rfl, fun _ _ _ => rfl⟩
      obtain ⟨i1, a1, g1, k1, S1, w1, w2⟩ := h_members_b (n := n) (by omega) hF hZ c (A + 1) n g i a S rfl (by omega) hE (fun x hx1 hx2 => by
        have := hst (x - (A + 1)) (by omega)
        rw [show A + 1 + (x - (A + 1)) = x by omega, if_neg (by omega)] at this
        omega) ct0.1
      have ct1 := CT_trans ct0 w2
      have hend : sA (a1 1) (A + 1 + c) = 0 := by
        rw [ct1.2.2.2.1 _ hE]
        have := hst c (Nat.le_refl _)
        rw [if_pos rfl] at this
        exact this
      obtain ⟨i', a', g', k, S', w3, w4⟩ := ih (A + 1 + c) f (q + 1) g1 i1 a1 S1 (by omega) (by omega) (by omega) hend w2.1
      refine ⟨i', a', g', (0 + k1.1 + k.1, 0 + k1.2 + k.2), S', ?_, CT_trans ct1 w4⟩
      have eM : m_Heap_moveMembers n g i a (nI A) = some (i1, a1, g1, k1, nI (A + 1 + c)) := by
        unfold m_Heap_moveMembers
        simp only [i32_lit]
        rw [ck_n (by omega), ob1_s, ob1_s, cl_n (by omega), ec, hd_c hz (by omega), nI_add, nI_add]
        exact w1
      rw [eM]
      rw [Nat.zero_add, Nat.zero_add]
      refine obG_s ?_
      unfold m_Heap_endCollecting_b46
      rw [ob1_s, show (1 : Int32) = nI 1 from rfl, nI_add]
      exact w3
    · rw [ec, if_pos (mk_bit hmk)]
      have h1 : sA (a 1) (A + 1) = 1 := by rw [sA_succ (by omega), hA, sStep, if_pos rfl, ec, cl_n (by omega), if_neg (by omega)]
      obtain ⟨E, z1, z2, z3, z4, z5⟩ := h_behindW_b (n := n) (g := g) (A := A) h9 hS1 hg2 c3 (S - (A + 1)) (A + 1) n (by omega) (by omega) (by omega) h1
      have hp : ∀ x, A ≤ x → x < E → ¬ 2 ≤ sA (a 1) x := fun x hx1 hx2 => by
        rcases Nat.eq_or_lt_of_le hx1 with b | b
        · rw [← b, hA]; decide
        · rw [z5 x (by omega) hx2]; decide
      have ct0 : CT g i a f0 T S A Z g i a (0, 0) S E Z := ⟨⟨COL_pass hC (by omega) z3 hp, h.2⟩, Nat.le_refl _, fun t v hv => mV_pass (by omega) hp hv, fun _ _ => rfl, sGrow_refl hg2, fun _ _ => rfl, fun _ _ _ => rfl⟩
      obtain ⟨i', a', g', k, S', w3, w4⟩ := ih E f (q + 1) g i a S (by omega) (by omega) (by omega) z4 ct0.1
      refine ⟨i', a', g', k, S', ?_, by have := CT_trans ct0 w4; rw [Nat.zero_add, Nat.zero_add] at this; exact this⟩
      unfold m_Heap_behindWord
      rw [show (1 : Int32) = nI 1 from rfl, nI_add, ob1_s, z1, ob0_s]
      unfold m_Heap_endCollecting_b46
      rw [ob1_s, show (1 : Int32) = nI 1 from rfl, nI_add]
      exact w3

