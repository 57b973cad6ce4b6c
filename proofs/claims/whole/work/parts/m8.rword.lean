/-! a word that has its inputs, in the reference -/
theorem d6_ar {x y k : Nat} (h : x ≤ 150) (h2 : 6 * (151 - x) + (401 - y) ≤ k + 4) : 6 * (151 - x - 1) + (401 - y) + 2 ≤ k := by omega
theorem b580_l {n bd d : Nat} {g : GB} (hn : 100000 ≤ n) (hE : EvalS bd d g.1) {c0 : Cfg} {l : Lv} {R : List Lv} {T s : Nat} {i0 : Nat → Int32} {j0 : Nat → Int64} {a0 : Nat → Nat → Int32} {b0 : Nat → Nat → Int64} {B0 : RB4} (hsl : s = wsStr (lWs l)) (hs4 : s ≤ 4) (hD : 6 * (151 - (l :: R).length) + (401 - lvWaits (l :: R)) ≤ d + 1) (hT : tpOk T (l :: R)) {i : Nat → Int32} {j : Nat → Int64} {a : Nat → Nat → Int32} {b : Nat → Nat → Int64} {B : RB4} {G : GS} {N : LN} {F : List Fr} {l1 : Lv} {got : Option Tr} {v : Int64} (ht : To bd c0 (G, N, F, l1 :: R, 1, got, none)) (hs : sameL l l1) (hws : lWs l1 = lWs l) (hnx : lNx l < lNx l1) (hN : nState N = 1) (hI : IV G N F (l1 :: R)) (hw : rFull i j a b B bd G N F (l1 :: R)) (htp : rTop i a b B l1) (h102 : i 102 = 0) (h107 : i 107 = nI T) (hv : rO a b B got v) (hu : rUp a0 b0 B0 a b B) (hfm : rFm i0 j0 a0 b0 i j a b) (hk7 : kT7 b0 b T) : PG bd c0 l R T i0 j0 a0 b0 B0 (ZE bd c0 l R T b0 (fun l' => lWs l' = lWs l ∧ lNx l < lNx l' ∧ (∀ s, aSign l' = some s → aStrength s ≤ wsStr (lWs l)))) (m_Model_eval_b580 n g i j a b (nI s) v) := by
  unfold m_Model_eval_b580
  rw [r_signAhead (s := s) (by omega) (IV_l hI) htp, ob0_s]
  have hlen : (tMem (lLst l)).length ≤ 90000 := by
    obtain ⟨x, ⟨x1, x2⟩, x3, x4⟩ := htp
    have := (rListAt x3 (IV_l hI).2.1 x2).2.2.1
    rw [hs.2.2.2.2.2.1] at this
    exact this
  exact sign_l hn hE hsl hs4 hD hT _ n i j a b B G N F l1 got v rfl (by omega) ht hs hws hnx hN hI hw htp h102 h107 hv hu hfm hk7
theorem app_l {n k bd : Nat} (hn : 100000 ≤ n) (hE : EvalS bd (k + 3) (mG n (k + 3)).1) (hRun : RunsS bd k (mG n k).2.2.2.1) (hRan : RanS bd k (mG n k).2.2.1) (hRan1 : RanS bd (k + 1) (mG n (k + 1)).2.2.1) (hRan2 : RanS bd (k + 2) (mG n (k + 2)).2.2.1) (hA : At105 (mG n (k + 2)).2.2.1) {c0 : Cfg} {l : Lv} {R : List Lv} {T s : Nat} {i0 : Nat → Int32} {j0 : Nat → Int64} {a0 : Nat → Nat → Int32} {b0 : Nat → Nat → Int64} {B0 : RB4} (hsl : s = wsStr (lWs l)) (hs4 : s ≤ 4) (hD : 6 * (151 - (l :: R).length) + (401 - lvWaits (l :: R)) ≤ k + 4) (hT : tpOk T (l :: R)) {i : Nat → Int32} {j : Nat → Int64} {a : Nat → Nat → Int32} {b : Nat → Nat → Int64} {B : RB4} {G : GS} {N : LN} {F : List Fr} {l3 : Lv} {w : Wt} {many T' : Nat} {v9 v10 s0 : Int32} {v12 : Int64} {vs : List Tr} (ht : To bd c0 (G, N, F, l3 :: R, 3, none, some w)) (hv : aInv2 (G, N, F, l3 :: R, 3, none, some w)) (hs : sameL l l3) (hws : lWs l3 = lWs l) (hnx : lNx l < lNx l3) (hN : nState N = 1) (hw : rFull (upd i 98 (nI (lvWaits (l3 :: R)))) j a b B bd G N F (l3 :: R)) (h98 : i 98 - s0 = nI (lvWaits (l3 :: R))) (htp : rTop i a b B l3) (h102 : i 102 = 0) (h107 : i 107 = nI T') (hTT : T ≤ T' ∧ T' ≤ T + 10) (hk : (∃ p, p < 74 ∧ v9 = nI p ∧ w = (1, pCode p, many, 0, vs, [], .nil) ∧ vs.length = (aKind (pCode p)).length ∧ ∀ q (h : q < vs.length), rV a b B (vs[q]'h) none (b 111 (T + q))) ∨ (∃ (kk : Nat) (ns : List Nm) (body : Tr) (ys : Nat → Nat), v9 = -1 ∧ v10 = nI kk ∧ kk < 40 ∧ w = (2, kk, many, 0, vs, ns, body) ∧ ns.length = many ∧ vs.length = many ∧ many ≤ 5 ∧ (∀ q (h : q < ns.length), b 111 (T + q) = vW (ys q) ∧ rW a B (ys q) (ns[q]'h)) ∧ (∀ q (h : q < vs.length), rV a b B (vs[q]'h) none (b 111 (T + many + q))) ∧ rV a b B body none v12)) (hu : rUp a0 b0 B0 a b B) (hfm : rFm i0 j0 a0 b0 i j a b) (hk7 : kT7 b0 b T) : PG bd c0 l R T i0 j0 a0 b0 B0 (ZE bd c0 l R T b0 (fun l' => lWs l' = lWs l ∧ lNx l < lNx l' ∧ (∀ s, aSign l' = some s → aStrength s ≤ wsStr (lWs l)))) (m_Model_eval_b508 n (mG n (k + 3)) i j a b (nI s) v9 v10 (nI many) v12 (nI T) s0 (i 98)) := by
  have hI := iv_of hv
  have hwt : lvWaits (l3 :: R) = lvWaits (l :: R) := by rw [lvW_c, lvW_c, hws]
  have hmv : mapVals (l3 :: R) = mapVals (l :: R) := by rw [mapVals, mapVals, hs.2.2.2.2.2.2.2]
  have hlen3 : (l3 :: R).length = (l :: R).length := rfl
  have hT3 : tpOk T (l3 :: R) := by unfold tpOk at hT ⊢; rw [hwt, hmv, hlen3]; exact hT
  have hl150 := hI.2.2.1.2.1
  unfold m_Model_eval_b508
  rw [ob1_s, ob1_s, h98]
  obtain ⟨i1, ei1⟩ : ∃ i1, i1 = upd i 98 (nI (lvWaits (l3 :: R))) := ⟨_, rfl⟩
  rw [← ei1] at hw ⊢
  have hi1 : ∀ q, q ≠ 98 → i1 q = i q := fun q hq => by rw [ei1, upd_ne hq]
  have hf1 : rFm i j a b i1 j a b := by rw [ei1]; exact rFm_i (by decide)
  have htp1 : rTop i1 a b B l3 := rTop_ct (rUp_refl (rWo_B hw.1.1)) (hi1 105 (by decide)) (hi1 106 (by decide)) htp
  -- what comes behind the word
  have behind : ∀ (i : Nat → Int32) (j : Nat → Int64) (a : Nat → Nat → Int32) (b : Nat → Nat → Int64) (v : Int64) (B : RB4) (c2 : Cfg) (N2 : LN), To bd c0 c2 → rUp a0 b0 B0 a b B → rFm i0 j0 a0 b0 i j a b → kT7 b0 b T → i 102 = 0 → ZL bd c2 N2 l3 R T b i j a b v B → PG bd c0 l R T i0 j0 a0 b0 B0 (ZE bd c0 l R T b0 (fun l' => lWs l' = lWs l ∧ lNx l < lNx l' ∧ (∀ s, aSign l' = some s → aStrength s ≤ wsStr (lWs l)))) (m_Model_eval_b554 n (mG n (k + 3)) i j a b (nI s) (nI T) v) := by
    intro i j a b v B c2 N2 hto hu hf hk h102 hz
    obtain ⟨G', N', F', got, z1, z2, z3, z4, z5, z6, z7, z8⟩ := hz
    unfold m_Model_eval_b554 m_Model_eval_b569
    rw [if_pos h102, ob1_s, if_pos (by rw [upd_ne (by decide)]; exact h102)]
    have hi : ∀ q, q ≠ 107 → upd i 107 (nI T) q = i q := fun q hq => upd_ne hq
    exact b580_l hn hE hsl hs4 (by omega) hT (To_trans hto z1) hs hws hnx z2 z4 ⟨rWk_i z5.1 (fun q hq => hi q (fun h => by subst h; revert hq; decide)), rLc_i z5.2 (hi 97 (by decide)) (hi 98 (by decide)) (hi 116 (by decide)) (hi 117 (by decide))⟩ (rTop_ct (rUp_refl (rWo_B z5.1.1)) (hi 105 (by decide)) (hi 106 (by decide)) z6) ((hi 102 (by decide)).trans h102) upd_at z8 hu (rFm_trans hf (rFm_i (by decide))) hk
  have nob : ∀ (i : Nat → Int32) (j : Nat → Int64) (a : Nat → Nat → Int32) (b : Nat → Nat → Int64) (v : Int64), i 102 ≠ 0 → ∃ w9, m_Model_eval_b554 n (mG n (k + 3)) i j a b (nI s) (nI T) v = some (i, j, a, b, w9) := by
    intro i j a b v h
    unfold m_Model_eval_b554 m_Model_eval_b569
    rw [if_neg h, if_neg h]
    exact ⟨3, rfl⟩
  refine PG_begins ht (Or.inl rfl) hv hN hw hs hu (rFm_trans hfm hf1) hk7 (fun i5 h5 => ?_) ?_
  · rw [if_pos rfl]
    exact nob i5 j a b 3 h5
  intro d1 d2 hto5
  rw [if_neg (show ¬ (1 : Int32) = 0 by decide)]
  obtain ⟨N5, eN5⟩ : ∃ N5, N5 = nSetDone N (nDone N + 1) := ⟨_, rfl⟩
  have h93 := rFull_93 hw d1
  have hsl5 := (rWo_93 hw.1.1 d1).2
  obtain ⟨i5, ei5⟩ : ∃ i5, i5 = upd i1 93 (nI (nDone N + 1)) := ⟨_, rfl⟩
  rw [← ei5] at h93 ⊢
  rw [← eN5] at h93 hsl5
  have hi5 : ∀ q, q ≠ 93 → i5 q = i1 q := fun q hq => by rw [ei5, upd_ne hq]
  have hN5 : nState N5 = 1 := by rw [eN5]; exact hN
  have hI5 : IV G N5 F (l3 :: R) := by
    obtain ⟨q1, ⟨q2, q3, q4, q5, q6⟩, q7, q8⟩ := hI
    rw [eN5]
    exact ⟨q1, ⟨q2, q3, by show nDone N + 1 ≤ 20000; omega, q5, q6⟩, q7, q8⟩
  have htp5 : rTop i5 a b B l3 := rTop_ct (rUp_refl (rWo_B hw.1.1)) (hi5 105 (by decide)) (hi5 106 (by decide)) htp1
  have h1025 : i5 102 = 0 := (hi5 102 (by decide)).trans ((hi1 102 (by decide)).trans h102)
  have h1075 : i5 107 = nI T' := (hi5 107 (by decide)).trans ((hi1 107 (by decide)).trans h107)
  have hf5 : rFm i0 j0 a0 b0 i5 j a b := rFm_trans (rFm_trans hfm hf1) (by rw [ei5]; exact rFm_i (by decide))
  have num : ∀ v0, (∃ z, rV a b B v0 none z) → isN v0 = true → -1000000000 ≤ tNum v0 ∧ tNum v0 ≤ 1000000000 := fun v0 hz hn0 => by
    obtain ⟨z, hz⟩ := hz
    exact (numAt (n := n) hz hn0).2
  have D6 : 6 * (151 - (l3 :: R).length - 1) + (401 - lvWaits (l3 :: R)) + 2 ≤ k := by rw [hwt, hlen3]; rw [hlen3] at hl150; exact d6_ar hl150 hD
  rcases hk with ⟨p, p1, p2, p3, p4, p5⟩ | ⟨kk, ns, body, ys, p1, p2, p3, p4, p5, p6, p7, p8, p9, p10⟩
  · have ea : aApply (G, N, F, l3 :: R, 3, none, some w) = aDo (pCode p) vs G N5 F (l3 :: R) := by rw [p3, eN5]; rfl
    have hv5 := iv_apply3 hv hN d1 (fun w0 e0 v0 hv0 hn0 => by
      have e0 := Option.some.inj e0
      rw [← e0, p3] at hv0
      obtain ⟨q, hq, eq⟩ := List.getElem_of_mem (show v0 ∈ vs from hv0)
      exact num v0 ⟨_, by rw [← eq]; exact p5 q hq⟩ hn0)
    rw [ea] at hto5 hv5
    rw [p2, if_neg (m1_ne (by omega))]
    have hap := r_applied (n := n) (k := k) hn hRun hRan hRan1 hN5 hI5 hv5 h93 hsl5 htp5 h1025 h1075 hTT.1 hTT.2 hT3 p1 p4 p5 D6
    refine PG_bind hap hto5 hs hu hf5 hk7 (Nat.le_refl _) ?_ ?_
    · intro i' j' a' b' v' B' gu gf g102 gz
      have gz2 := gz
      obtain ⟨G', N', F', got, z1, z2, z3, z4, z5, z6, z7, z8⟩ := gz
      exact behind i' j' a' b' v' B' _ N5 hto5 (rUp_trans hu gu) (rFm_trans hf5 gf) (kT7_trans hk7 z7 (Nat.le_refl _)) g102 ⟨G', N', F', got, z1, z2, z3, z4, z5, z6, kT7_refl, z8⟩
    · intro i' j' a' b' v' h'
      exact nob i' j' a' b' v' h'
  · have ea : aApply (G, N, F, l3 :: R, 3, none, some w) = aCall (2, kk, many, 0, vs, ns, body) G N5 F (l3 :: R) := by rw [p4, eN5]; rfl
    have hv5 := iv_apply3 hv hN d1 (fun w0 e0 v0 hv0 hn0 => by
      have e0 := Option.some.inj e0
      rw [← e0, p4] at hv0
      obtain ⟨q, hq, eq⟩ := List.getElem_of_mem (show v0 ∈ vs from hv0)
      exact num v0 ⟨_, by rw [← eq]; exact p9 q hq⟩ hn0)
    rw [ea] at hto5 hv5
    rw [p1, if_pos rfl, p2]
    have hap := r_called (n := n) (g := mG n (k + 2)) (T := T') (base := T) (by omega) hRan2 hA hN5 hI5 hv5 h93 htp5 h1025 h1075 hTT.2 hTT.1 hT3 p5 p6 p7 p3 p8 p9 p10 (by omega)
    refine PG_bind hap hto5 hs hu hf5 hk7 (Nat.le_refl _) ?_ ?_
    · intro i' j' a' b' v' B' gu gf g102 gz
      obtain ⟨G', N', F', got, z1, z2, z3, z4, z5, z6, z7, z8⟩ := gz
      exact behind i' j' a' b' v' B' _ N5 hto5 (rUp_trans hu gu) (rFm_trans hf5 gf) (kT7_trans hk7 z7 (Nat.le_refl _)) g102 ⟨G', N', F', got, z1, z2, z3, z4, z5, z6, kT7_refl, z8⟩
    · intro i' j' a' b' v' h'
      exact nob i' j' a' b' v' h'

