/-! a word is met, in the reference -/
theorem push_l {n : Nat} {g : GB} {j : Nat → Int64} {a : Nat → Nat → Int32} {v1 v14 : Int32} {v12 : Int64} {kk many T : Nat} {ys : Nat → Nat} (hk : kk < 40) (hm : many ≤ 5) (hT : T + many < 36000) (hy : ∀ r, r < many → a 31 (5 * kk + r) = nI (ys r) ∧ ys r < 120000) : ∀ (m q f : Nat) (i : Nat → Int32) (b : Nat → Nat → Int64), q + m = many → m < f → i 107 = nI (T + q) → ∃ i' b', m_Model_eval_b370 n g f i j a b v1 (-1) (nI kk) (nI many) v12 v14 (nI q) = m_Model_eval_b423 n g i' j a b' v1 (-1) (nI kk) (nI many) v12 v14 ∧ i' 107 = nI (T + many) ∧ (∀ r, r ≠ 107 → i' r = i r) ∧ (∀ r, r ≠ 111 → b' r = b r) ∧ (∀ r, r < T + q → b' 111 r = b 111 r) ∧ ∀ r, q ≤ r → r < many → b' 111 (T + r) = vW (ys r) := by
  intro m
  induction m with
  | zero =>
    intro q f i b hq hf h107
    obtain ⟨f, rfl⟩ : ∃ f', f = f' + 1 := ⟨f - 1, by omega⟩
    refine ⟨i, b, ?_, by rw [h107, show q = many by omega], fun _ _ => rfl, fun _ _ => rfl, fun _ _ => rfl, fun r h1 h2 => by omega⟩
    rw [m_Model_eval_b370, if_pos rfl, ile_p (by omega)]
  | succ m ih =>
    intro q f i b hq hf h107
    obtain ⟨f, rfl⟩ : ∃ f', f = f' + 1 := ⟨f - 1, by omega⟩
    obtain ⟨y1, y2⟩ := hy q (by omega)
    have e5 : (5 : Int32) * nI kk = nI (5 * kk) := by rw [show (5 : Int32) = nI 5 from rfl, pk_mul]
    obtain ⟨i', b', g1, g2, g3, g4, g5, g6⟩ := ih (q + 1) f (upd i 107 (nI (T + (q + 1)))) (svl b 111 (T + q) (vW (ys q))) (by omega) (by omega) upd_at
    refine ⟨i', b', ?_, g2, fun r hr => (g3 r hr).trans (upd_ne hr), fun r hr => (g4 r hr).trans (updB_ne hr), fun r hr => (g5 r (by omega)).trans (svl_ne (by omega)), fun r h1 h2 => ?_⟩
    · rw [m_Model_eval_b370, if_pos rfl, ile_n (by omega), e5, nI_add, ck_n (by omega), cl_n (by omega), y1, r_wordValue (by omega), ob0_s, h107, ck_n (by omega), cl_n (by omega), ob1_s, ob1_s, ob1_s, ob1_s, show nI (T + q) + (1 : Int32) = nI (T + (q + 1)) from nI_add _ 1, show nI q + (1 : Int32) = nI (q + 1) from nI_add q 1]
      exact g1
    · rcases (by omega : r = q ∨ q + 1 ≤ r) with e | e
      · subst e
        rw [g5 (T + r) (by omega)]
        exact svl_at
      · exact g6 r e h2
theorem met_l {n k bd : Nat} (hn : 100000 ≤ n) (hE : EvalS bd (k + 3) (mG n (k + 3)).1) (hRun : RunsS bd k (mG n k).2.2.2.1) (hRan : RanS bd k (mG n k).2.2.1) (hRan1 : RanS bd (k + 1) (mG n (k + 1)).2.2.1) (hRan2 : RanS bd (k + 2) (mG n (k + 2)).2.2.1) (hA : At105 (mG n (k + 2)).2.2.1) {c0 : Cfg} {l : Lv} {R : List Lv} {T s : Nat} {i0 : Nat → Int32} {j0 : Nat → Int64} {a0 : Nat → Nat → Int32} {b0 : Nat → Nat → Int64} {B0 : RB4} (hsl : s = wsStr (lWs l)) (hs4 : s ≤ 4) (hD : 6 * (151 - (l :: R).length) + (401 - lvWaits (l :: R)) ≤ k + 4) (hT : tpOk T (l :: R)) {many ks cd : Nat} {ns : List Nm} {bdy : Tr} {pr : Bool} {v9 v10 : Int32} {v12 : Int64} {i : Nat → Int32} {j : Nat → Int64} {a : Nat → Nat → Int32} {b : Nat → Nat → Int64} {B : RB4} {G : GS} {N : LN} {F : List Fr} {l1 : Lv} (ht : To bd c0 (aSettleLast G N F (l1 :: R) (ks, cd, many, 0, [], ns, bdy))) (hv : aInv2 (aSettleLast G N F (l1 :: R) (ks, cd, many, 0, [], ns, bdy))) (hs : sameL l l1) (hws : lWs l1 = lWs l) (hnx : lNx l < lNx l1) (hN : nState N = 1) (hI : IV G N F (l1 :: R)) (hw : rFull i j a b B bd G N F (l1 :: R)) (htp : rTop i a b B l1) (h102 : i 102 = 0) (h107 : i 107 = nI T) (hwd : (pr = false ∧ ∃ p, p < 74 ∧ v9 = nI p ∧ ks = 1 ∧ cd = pCode p ∧ ns = [] ∧ bdy = .nil ∧ many = (aKind (pCode p)).length) ∨ (pr = true ∧ ∃ ys : Nat → Nat, v9 = -1 ∧ v10 = nI cd ∧ cd < 40 ∧ ks = 2 ∧ ns.length = many ∧ many ≤ 5 ∧ (∀ q (h : q < ns.length), a 31 (5 * cd + q) = nI (ys q) ∧ rW a B (ys q) (ns[q]'h)) ∧ rV a b B bdy none v12)) (hu : rUp a0 b0 B0 a b B) (hfm : rFm i0 j0 a0 b0 i j a b) (hk7 : kT7 b0 b T) : PG bd c0 l R T i0 j0 a0 b0 B0 (ZE bd c0 l R T b0 (fun l' => lWs l' = lWs l ∧ lNx l < lNx l' ∧ (∀ s, aSign l' = some s → aStrength s ≤ wsStr (lWs l)))) (m_Model_eval_b343 n (mG n (k + 3)) i j a b (nI s) v9 v10 (nI many) v12) := by
  have m5 : many ≤ 5 := by
    rcases hwd with ⟨_, p, _, _, _, _, _, _, h⟩ | ⟨_, ys, _, _, _, _, _, h, _⟩
    · have := aKind_le (pCode p); omega
    · exact h
  have hwt : lvWaits (l1 :: R) = lvWaits (l :: R) := by rw [lvW_c, lvW_c, hws]
  have hmv : mapVals (l1 :: R) = mapVals (l :: R) := by rw [mapVals, mapVals, hs.2.2.2.2.2.2.2]
  have hlen1 : (l1 :: R).length = (l :: R).length := rfl
  have hT1 : tpOk T (l1 :: R) := by unfold tpOk at hT ⊢; rw [hwt, hmv, hlen1]; exact hT
  have htb := tp_le hT1 hI
  have hw400 : lvWaits (l1 :: R) ≤ 400 := hI.2.2.1.2.2.1
  -- to the first input, whatever the word is
  have pushed : ∀ (i : Nat → Int32) (j : Nat → Int64) (a : Nat → Nat → Int32) (b : Nat → Nat → Int64) (B : RB4) (L : List Lv), rUp a0 b0 B0 a b B → rFm i0 j0 a0 b0 i j a b → kT7 b0 b T → i 107 = nI T → rFull i j a b B bd G N F L → ((pr = false ∧ ∃ p, p < 74 ∧ v9 = nI p ∧ ks = 1 ∧ cd = pCode p ∧ ns = [] ∧ bdy = .nil ∧ many = (aKind (pCode p)).length) ∨ (pr = true ∧ ∃ ys : Nat → Nat, v9 = -1 ∧ v10 = nI cd ∧ cd < 40 ∧ ks = 2 ∧ ns.length = many ∧ many ≤ 5 ∧ (∀ q (h : q < ns.length), a 31 (5 * cd + q) = nI (ys q) ∧ rW a B (ys q) (ns[q]'h)) ∧ rV a b B bdy none v12)) → ∃ i' b', m_Model_eval_b367 n (mG n (k + 3)) i j a b (nI s) v9 v10 (nI many) v12 (nI T) = m_Model_eval_b426 n (mG n (k + 3)) n i' j a b' (nI s) v9 v10 (nI many) v12 (nI T) (nI 0) ∧ i' 107 = nI (T + (if pr then many else 0)) ∧ (∀ r, r ≠ 107 → i' r = i r) ∧ rUp a b B a b' B ∧ rFull i' j a b' B bd G N F L ∧ WD a b' B T many v9 v10 v12 ks cd ns bdy pr ∧ kT7 b0 b' T ∧ rFm i0 j0 a0 b0 i' j a b' := by
    intro i j a b B L hu hfm hk7 h107 hw hwd
    have hn0 : ∃ n', n = n' + 1 := ⟨n - 1, by omega⟩
    unfold m_Model_eval_b367
    rcases hwd with ⟨q0, p, q1, q2, q3, q4, q5, q6, q7⟩ | ⟨q0, ys, q1, q2, q3, q4, q5, q6, q7, q8⟩
    · refine ⟨i, b, ?_, by rw [h107, q0]; rfl, fun _ _ => rfl, rUp_refl (rWo_B hw.1.1), hw, Or.inl ⟨q0, p, q1, q2, q3, q4, q5, q6, q7⟩, hk7, hfm⟩
      obtain ⟨n', hn'⟩ := hn0
      have : ∀ f, m_Model_eval_b370 n (mG n (k + 3)) (f + 1) i j a b (nI s) v9 v10 (nI many) v12 (nI T) 0 = m_Model_eval_b423 n (mG n (k + 3)) i j a b (nI s) v9 v10 (nI many) v12 (nI T) := fun f => by
        rw [m_Model_eval_b370, q2, if_neg (m1_ne (by omega))]
      conv => lhs; rw [show m_Model_eval_b370 n (mG n (k + 3)) n = m_Model_eval_b370 n (mG n (k + 3)) (n' + 1) by rw [← hn']]
      rw [this n']
      rfl
    · obtain ⟨i', b', g1, g2, g3, g4, g5, g6⟩ := push_l (n := n) (g := mG n (k + 3)) (j := j) (a := a) (v1 := nI s) (v14 := nI T) (v12 := v12) (kk := cd) (many := many) (T := T) (ys := ys) q3 q6 (by omega) (fun r hr => ⟨(q7 r (by omega)).1, by have := (q7 r (by omega)).2.1; have := (q7 r (by omega)).2.2.1; omega⟩) many 0 n i b (by omega) (by omega) (by rw [h107]; rfl)
      have hbq : ∀ q, q ≠ 111 → b' q = b q := g4
      obtain ⟨hu2, hw2⟩ := rWo_ab (a' := a) (b' := b') hw.1.1 (fun _ _ => rfl) (fun q hq => hbq q (nm_ne hq (by decide)))
      refine ⟨i', b', ?_, by rw [g2, q0]; rfl, g3, hu2, ⟨⟨rWo_i hw2 (fun q hq => g3 q (fun h => by subst h; revert hq; decide)), rRow_up hu2 L hw.1.2.1 (fun _ _ => ⟨rfl, rfl⟩) (fun q _ => ⟨rfl, by rw [hbq 122 (by decide)]⟩) (fun q _ => by rw [hbq 123 (by decide)]), rAs_i hw.1.2.2.1 (g3 118 (by decide)) (g3 103 (by decide)) (g3 104 (by decide)), hw.1.2.2.2⟩, rLc_i hw.2 (g3 97 (by decide)) (g3 98 (by decide)) (g3 116 (by decide)) (g3 117 (by decide))⟩, Or.inr ⟨q0, ys, q1, q2, q3, q4, q5, q6, fun q hq => ⟨g6 q (Nat.zero_le _) (by omega), rW_up hu2 (q7 q hq).2⟩, (rV_up hu2 _).1 _ q8⟩, fun q hq => (g5 q (by omega)).trans (hk7 q hq), rFm_trans hfm ⟨fun q hq => g3 q (nm_ne hq (by decide)), fun _ _ => rfl, fun _ _ => rfl, fun q hq => hbq q (nm_ne hq (by decide))⟩⟩
      rw [q1, q2, show (0 : Int32) = nI 0 from rfl, g1]
      rfl
  unfold m_Model_eval_b343
  rw [ob1_s, h107]
  rcases Nat.eq_zero_or_pos many with c | c
  · have es : aSettleLast G N F (l1 :: R) (ks, cd, many, 0, [], ns, bdy) = (G, N, F, l1 :: R, 3, none, some (ks, cd, many, 0, [], ns, bdy)) := by
      unfold aSettleLast
      exact if_pos c
    rw [es] at ht hv
    rw [if_pos (by rw [c]; decide)]
    obtain ⟨i', b', g1, g2, g3, g4, g5, g6, g7, g8⟩ := pushed i j a b B (l1 :: R) hu hfm hk7 h107 hw hwd
    rw [g1]
    obtain ⟨n', hn'⟩ : ∃ n', n = n' + 1 := ⟨n - 1, by omega⟩
    have e426 : ∀ f, m_Model_eval_b426 n (mG n (k + 3)) (f + 1) i' j a b' (nI s) v9 v10 (nI many) v12 (nI T) (nI 0) = m_Model_eval_b508 n (mG n (k + 3)) i' j a b' (nI s) v9 v10 (nI many) v12 (nI T) 0 (i' 98) := fun f => by
      rw [m_Model_eval_b426, ile_p (by omega), if_pos (by rw [c]; decide)]
    rw [show m_Model_eval_b426 n (mG n (k + 3)) n = m_Model_eval_b426 n (mG n (k + 3)) (n' + 1) by rw [← hn']]
    rw [e426 n']
    have e98 : i' 98 = nI (lvWaits (l1 :: R)) := g5.2.2.1
    have hw9 : upd i' 98 (nI (lvWaits (l1 :: R))) = i' := by
      funext q
      unfold upd
      split
      · next h => rw [h, e98]
      · rfl
    refine app_l hn hE hRun hRan hRan1 hRan2 hA hsl hs4 hD hT (vs := []) (T' := T + (if pr then many else 0)) ht hv hs hws hnx hN (by rw [hw9]; exact g5) (by rw [e98]; exact Int32.sub_zero _) (rTop_ct g4 (g3 105 (by decide)) (g3 106 (by decide)) htp) ((g3 102 (by decide)).trans h102) g2 ⟨Nat.le_add_right _ _, by split <;> omega⟩ ?_ (rUp_trans hu g4) g8 g7
    rcases g6 with ⟨q0, p, q1, q2, q3, q4, q5, q6, q7⟩ | ⟨q0, ys, q1, q2, q3, q4, q5, q6, q7, q8⟩
    · exact Or.inl ⟨p, q1, q2, by rw [q3, q4, q5, q6], by rw [← q7, c]; rfl, fun q hq => absurd hq (Nat.not_lt_zero q)⟩
    · exact Or.inr ⟨cd, ns, bdy, ys, q1, q2, q3, by rw [q4], q5, by rw [c]; rfl, q6, q7, fun q hq => absurd hq (Nat.not_lt_zero q), q8⟩
  · have es : aSettleLast G N F (l1 :: R) (ks, cd, many, 0, [], ns, bdy) = if 400 ≤ lvWaits (l1 :: R) then aFail 6 G N F (l1 :: R) else (G, N, F, lSetWs l1 ((ks, cd, many, 0, [], ns, bdy) :: lWs l1) :: R, 0, none, none) := by
      unfold aSettleLast
      rw [if_neg (by show ¬ many = 0; omega)]
    rw [es] at ht hv
    rw [show (0 : Int32) = nI 0 from rfl, ile_n (by omega)]
    unfold m_Model_waits
    rw [hw.2.2.1, show (400 : Int32) = nI 400 from rfl]
    rcases (by omega : lvWaits (l1 :: R) = 400 ∨ lvWaits (l1 :: R) < 400) with cw | cw
    · rw [if_pos (by omega)] at ht
      rw [ieq_p (by omega), show (6 : Int32) = nI 6 from rfl, r_fails, om_s, om_s, if_pos (show (0 : Int32) = nI 0 from rfl)]
      exact PG_fail (by decide) ht hs hN hI hw.1 hu hfm hk7
    · rw [if_neg (by omega)] at ht hv
      rw [ieq_n (by omega), ob1_s, ob1_s, om_s, if_neg (show ¬ (1 : Int32) = nI 0 by decide)]
      obtain ⟨l2, el2⟩ : ∃ l2, l2 = lSetWs l1 ((ks, cd, many, 0, [], ns, bdy) :: lWs l1) := ⟨_, rfl⟩
      rw [← el2] at ht hv
      have hs2 : sameL l1 l2 := by rw [el2]; exact sameL_ws _ _
      have l2w : lWs l2 = (ks, cd, many, 0, [], ns, bdy) :: lWs l := by rw [el2, ← hws]; rfl
      have l2n : lNx l2 = lNx l1 := by rw [el2]; rfl
      have l2wt : lvWaits (l2 :: R) = lvWaits (l1 :: R) + 1 := by rw [lvW_c, lvW_c, l2w, hws, List.length_cons]; omega
      rw [show nI (lvWaits (l1 :: R)) + (1 : Int32) = nI (lvWaits (l2 :: R)) by rw [l2wt]; exact nI_add _ 1]
      obtain ⟨i2, ei2⟩ : ∃ i2, i2 = upd i 98 (nI (lvWaits (l2 :: R))) := ⟨_, rfl⟩
      rw [← ei2]
      have hi2 : ∀ q, q ≠ 98 → i2 q = i q := fun q hq => by rw [ei2, upd_ne hq]
      have hw2 : rFull i2 j a b B bd G N F (l2 :: R) := rFull_ws hw hs2 (fun q hq => hi2 q (nm_ne hq (by decide))) (hi2 97 (by decide)) (by rw [ei2, upd_at]) (hi2 116 (by decide)) (hi2 117 (by decide))
      have htp2 : rTop i2 a b B l2 := by
        obtain ⟨x', ⟨xx1, xx2⟩, xx3, xx4⟩ := htp
        exact ⟨x', ⟨(hi2 105 (by decide)).trans xx1, xx2⟩, by rw [hs2.2.2.2.2.2.1]; exact xx3, by rw [hi2 106 (by decide), l2n]; exact xx4⟩
      obtain ⟨i', b', g1, g2, g3, g4, g5, g6, g7, g8⟩ := pushed i2 j a b B (l2 :: R) hu (rFm_trans hfm (by rw [ei2]; exact rFm_i (by decide))) hk7 ((hi2 107 (by decide)).trans h107) hw2 hwd
      rw [g1]
      exact in_l hn hE hRun hRan hRan1 hRan2 hA hsl hs4 hD hT c many n i' j a b' B G N F l2 [] (by show many = many - 0; omega) (by omega) c ht (sameL_trans hs hs2) l2w (by omega) hN (iv_of hv) g5 (rTop_ct g4 (g3 105 (by decide)) (g3 106 (by decide)) htp2) ((g3 102 (by decide)).trans ((hi2 102 (by decide)).trans h102)) (by rw [g2]; rfl) g6 (fun q hq => absurd hq (Nat.not_lt_zero q)) (rUp_trans hu g4) g8 g7

