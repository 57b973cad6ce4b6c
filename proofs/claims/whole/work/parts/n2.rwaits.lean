/-! a paren or a minus waits -/
theorem wt_l {n bd d : Nat} {g : GB} (hn : 100000 ≤ n) (hE : EvalS bd d g.1) {c0 : Cfg} {l : Lv} {R : List Lv} {T s : Nat} {i0 : Nat → Int32} {j0 : Nat → Int64} {a0 : Nat → Nat → Int32} {b0 : Nat → Nat → Int64} {B0 : RB4} (hsl : s = wsStr (lWs l)) (hs4 : s ≤ 4) (hD : 6 * (151 - (l :: R).length) + (401 - lvWaits (l :: R)) ≤ d + 1) (hT : tpOk T (l :: R)) {i : Nat → Int32} {j : Nat → Int64} {a : Nat → Nat → Int32} {b : Nat → Nat → Int64} {B : RB4} {G : GS} {N : LN} {F : List Fr} {l1 : Lv} {w : Wt} {pa : Bool} (ew : w = if pa then (4, 75, 1, 0, [], [], .nil) else (1, 25, 1, 4, [], [], .nil)) (ht : To bd c0 (aSettleLast G N F (l1 :: R) w)) (hv : aInv2 (aSettleLast G N F (l1 :: R) w)) (hs : sameL l l1) (hws : lWs l1 = lWs l) (hnx : lNx l < lNx l1) (hN : nState N = 1) (hI : IV G N F (l1 :: R)) (hw : rFull i j a b B bd G N F (l1 :: R)) (htp : rTop i a b B l1) (h102 : i 102 = 0) (h107 : i 107 = nI T) (hu : rUp a0 b0 B0 a b B) (hfm : rFm i0 j0 a0 b0 i j a b) (hk7 : kT7 b0 b T) : PG bd c0 l R T i0 j0 a0 b0 B0 (ZE bd c0 l R T b0 (fun l' => lWs l' = lWs l ∧ lNx l < lNx l' ∧ (∀ s, aSign l' = some s → aStrength s ≤ wsStr (lWs l)))) (m_Model_eval_b171 n g i j a b (nI s) (nI (if pa then 40 else 45))) := by
  have hwt : lvWaits (l1 :: R) = lvWaits (l :: R) := by rw [lvW_c, lvW_c, hws]
  have hmv : mapVals (l1 :: R) = mapVals (l :: R) := by rw [mapVals, mapVals, hs.2.2.2.2.2.2.2]
  have hlen1 : (l1 :: R).length = (l :: R).length := rfl
  have hw400 : lvWaits (l1 :: R) ≤ 400 := hI.2.2.1.2.2.1
  have hne : wNeed w = 1 := by rw [ew]; cases pa <;> rfl
  have hstr : wStr w = if pa then 0 else 4 := by rw [ew]; cases pa <;> rfl
  have es : aSettleLast G N F (l1 :: R) w = if 400 ≤ lvWaits (l1 :: R) then aFail 6 G N F (l1 :: R) else (G, N, F, lSetWs l1 (w :: lWs l1) :: R, 0, none, none) := by
    unfold aSettleLast
    rw [if_neg (by omega)]
  rw [es] at ht hv
  unfold m_Model_eval_b171 m_Model_waits
  rw [hw.2.2.1, show (400 : Int32) = nI 400 from rfl]
  rcases (by omega : lvWaits (l1 :: R) = 400 ∨ lvWaits (l1 :: R) < 400) with cw | cw
  · rw [if_pos (by omega)] at ht
    rw [ieq_p (by omega), show (6 : Int32) = nI 6 from rfl, r_fails, om_s, om_s, if_pos rfl]
    exact PG_fail (by decide) ht hs hN hI hw.1 hu hfm hk7
  rw [if_neg (by omega)] at ht hv
  rw [ieq_n (by omega), ob1_s, ob1_s, om_s, if_neg (by decide)]
  obtain ⟨l2, el2⟩ : ∃ l2, l2 = lSetWs l1 (w :: lWs l1) := ⟨_, rfl⟩
  rw [← el2] at ht hv
  have hs2 : sameL l1 l2 := by rw [el2]; exact sameL_ws _ _
  have l2w : lWs l2 = w :: lWs l := by rw [el2, ← hws]; rfl
  have l2n : lNx l2 = lNx l1 := by rw [el2]; rfl
  have l2wt : lvWaits (l2 :: R) = lvWaits (l1 :: R) + 1 := by rw [lvW_c, lvW_c, l2w, hws, List.length_cons]; omega
  rw [show nI (lvWaits (l1 :: R)) + (1 : Int32) = nI (lvWaits (l2 :: R)) by rw [l2wt]; exact nI_add _ 1]
  obtain ⟨i2, ei2⟩ : ∃ i2, i2 = upd i 98 (nI (lvWaits (l2 :: R))) := ⟨_, rfl⟩
  rw [← ei2]
  have hi2 : ∀ q, q ≠ 98 → i2 q = i q := fun q hq => by rw [ei2, upd_ne hq]
  have hw2 : rFull i2 j a b B bd G N F (l2 :: R) := rFull_ws hw hs2 (fun q hq => hi2 q (nm_ne hq (by decide))) (hi2 97 (by decide)) (by rw [ei2, upd_at]) (hi2 116 (by decide)) (hi2 117 (by decide))
  have htp2 : rTop i2 a b B l2 := by
    obtain ⟨x', ⟨xx1, xx2⟩, xx3, xx4⟩ := htp
    exact ⟨x', ⟨(hi2 105 (by decide)).trans xx1, xx2⟩, by rw [hs2.2.2.2.2.2.1]; exact xx3, by rw [hi2 106 (by decide), l2n]; exact xx4⟩
  have hf2 : rFm i0 j0 a0 b0 i2 j a b := rFm_trans hfm (by rw [ei2]; exact rFm_i (by decide))
  have hT2 : tpOk T (l2 :: R) := by
    have e1 : mapVals (l2 :: R) = mapVals (l :: R) := by rw [mapVals, mapVals, hs2.2.2.2.2.2.2.2, hs.2.2.2.2.2.2.2]
    have e2 : (l2 :: R).length = (l :: R).length := rfl
    unfold tpOk at hT ⊢
    rw [e1, l2wt, hwt, e2]
    omega
  have l2s : wsStr (lWs l2) = if pa then 0 else 4 := by rw [l2w]; exact hstr
  have hev := hE i2 j a b B G N F l2 R T hN (iv_of hv) hw2 htp2 ((hi2 102 (by decide)).trans h102) ((hi2 107 (by decide)).trans h107) hT2 (fun h => by rw [l2w] at h; cases h) (by
    have e2 : (l2 :: R).length = (l :: R).length := rfl
    rw [l2wt, hwt, e2]
    omega)
  rw [l2s] at hev
  have hsl2 := sameL_trans hs hs2
  -- what comes after the value within
  have after : PG bd c0 l R T i0 j0 a0 b0 B0 (ZE bd c0 l R T b0 (fun l' => lWs l' = lWs l ∧ lNx l < lNx l' ∧ (∀ s, aSign l' = some s → aStrength s ≤ wsStr (lWs l)))) (m_Model_eval_b195 n g i2 j a b (nI s) (nI (if pa then 40 else 45)) (nI (if pa then 0 else 4))) := by
    unfold m_Model_eval_b195
    refine PG_bind hev ht hsl2 hu hf2 hk7 (Nat.le_refl _) ?_ ?_
    · intro i' j' a' b' v' B' gu gf g102 gz
      obtain ⟨G', N', F', l3, got, z1, ⟨z2, z3, z4⟩, z5, z6, z7, z8, z9, z10, z11, z12, z13⟩ := gz
      have l3w : lWs l3 = w :: lWs l := z2.trans l2w
      have hs3 := sameL_trans hsl2 z5
      have hto3 := To_trans (To_trans ht z1) (To1 (bd := bd) z6)
      have hv3 := iv_settle (got := got) z8
      have hno : aSettle G' N' F' l3 R got = aInner G' N' F' l3 R got := settle_no (by rw [z2, l2s]; exact z4)
      rw [hno] at hto3 hv3
      have hu3 := rUp_trans hu gu
      have hf3 := rFm_trans hf2 gf
      have hk3 : kT7 b0 b' T := kT7_trans hk7 z12 (Nat.le_refl _)
      have hlo3 := IV_l z8
      have l3wt : lvWaits (l3 :: R) = lvWaits (l :: R) + 1 := by rw [lvW_c, lvW_c, l3w, List.length_cons]; omega
      have hw400' : lvWaits (l3 :: R) ≤ 400 := z8.2.2.1.2.2.1
      have flr : ∀ e, e ≤ 13 → aInner G' N' F' l3 R got = aFail e G' N' F' (l3 :: R) → PG bd c0 l R T i0 j0 a0 b0 B0 (ZE bd c0 l R T b0 (fun l' => lWs l' = lWs l ∧ lNx l < lNx l' ∧ (∀ s, aSign l' = some s → aStrength s ≤ wsStr (lWs l)))) (m_Model_eval_b233 n g (rFail i' e) j' a' b' (nI s) 3) := fun e he hfl => by
        unfold m_Model_eval_b233 m_Model_eval_b569
        rw [if_neg (by show ¬ (2 : Int32) = 0; decide)]
        rw [hfl] at hto3
        exact PG_fail he hto3 hs3 z6 z8 z9.1 hu3 hf3 hk3
      rw [if_pos g102]
      cases pa with
      | true =>
        have ei : aInner G' N' F' l3 R got = aClose G' N' F' l3 R got (lWs l) := by
          unfold aInner
          rw [l3w]
          dsimp only
          rw [if_pos (by rw [ew]; rfl)]
        rw [if_pos (show nI (if true then 40 else 45) = (40 : Int32) from rfl)]
        obtain ⟨x, ⟨x1, x2⟩, x3, x4⟩ := id z10
        obtain ⟨y1, y2, y3, p, y4, y5, y6⟩ := rListAt x3 hlo3.2.1 x2
        have hnx3 := hlo3.2.2.1
        unfold m_Model_closed
        rw [x1, x4, ck_n (by omega), cl_n (by omega), y2]
        rcases Nat.lt_or_ge (lNx l3) (tMem (lLst l3)).length with c | c
        · have eg : (tMem (lLst l3))[lNx l3]? = some ((tMem (lLst l3))[lNx l3]'c) := List.getElem?_eq_getElem c
          have hmm := y6 (lNx l3) c
          obtain ⟨_, k2, _⟩ := r_kinds n hmm
          rw [ilt_p (by omega), ck_n (by omega), y4, nI_add, ck_n (by omega), cl_n (by omega), ob1_s, k2, ob0_s]
          generalize (tMem (lLst l3))[lNx l3]'c = mm at eg hmm k2
          have ec : aClose G' N' F' l3 R got (lWs l) = if isW mm ∧ aLex (tLet mm) = 76 then (G', N', F', lSetWs (lSetNx l3 (lNx l3 + 1)) (lWs l) :: R, 1, got, none) else aFail 4 G' N' F' (l3 :: R) := by
            unfold aClose
            rw [eg]
          cases hW : isW mm with
          | false =>
            rw [b1_f, if_pos (show nI 0 = (0 : Int32) from rfl), show (4 : Int32) = nI 4 from rfl, r_fails, om_s, om_s]
            exact flr 4 (by decide) (by rw [ei, ec, if_neg (fun h => by rw [hW] at h; cases h.1)])
          | true =>
            obtain ⟨w9, ew9, hw9⟩ := r_isW_eq hmm hW
            have hw9b : w9 < 120000 := by have := hw9.1; have := hw9.2.1; omega
            rw [b1_t, if_neg (show ¬ nI 1 = (0 : Int32) by decide), ew9, r_whatW (by omega), ob0_s, r_isText (by omega) hw9 tx13, ob0_s]
            rcases Classical.em (tLet mm = [41]) with d | d
            · rw [decide_eq_true d, b1_t, if_neg (show ¬ nI 1 = (0 : Int32) by decide), ob1_s, ob1_s, ob1_s, ob1_s, om_s]
              rw [ei, ec, if_pos ⟨hW, (lex76 _).mpr d⟩] at hto3 hv3
              obtain ⟨l4, el4⟩ : ∃ l4, l4 = lSetWs (lSetNx l3 (lNx l3 + 1)) (lWs l) := ⟨_, rfl⟩
              rw [← el4] at hto3 hv3
              have hs4' : sameL l3 l4 := by rw [el4]; exact sameL_trans (sameL_nx l3 _) (sameL_ws _ _)
              have l4w : lWs l4 = lWs l := by rw [el4]; rfl
              have l4n : lNx l4 = lNx l3 + 1 := by rw [el4]; rfl
              have l4wt : lvWaits (l4 :: R) = lvWaits (l :: R) := by rw [lvW_c, lvW_c, l4w]
              have p98 : upd i' 106 (nI (lNx l3) + 1) 98 - 1 = nI (lvWaits (l4 :: R)) := by
                rw [upd_ne (by decide), z9.2.2.1, l3wt, l4wt, rI_pred (by omega) (by omega), Nat.add_sub_cancel]
              rw [p98, show nI (lNx l3) + (1 : Int32) = nI (lNx l4) by rw [l4n]; exact nI_add _ 1]
              obtain ⟨i4, ei4⟩ : ∃ i4, i4 = upd (upd i' 106 (nI (lNx l4))) 98 (nI (lvWaits (l4 :: R))) := ⟨_, rfl⟩
              rw [← ei4]
              have hi4 : ∀ q, q ≠ 106 → q ≠ 98 → i4 q = i' q := fun q h1 h2 => by rw [ei4, upd_ne h2, upd_ne h1]
              have hw4 : rFull i4 j' a' b' B' bd G' N' F' (l4 :: R) := rFull_ws z9 hs4' (fun q hq => hi4 q (nm_ne hq (by decide)) (nm_ne hq (by decide))) (hi4 97 (by decide) (by decide)) (by rw [ei4, upd_at]) (hi4 116 (by decide) (by decide)) (hi4 117 (by decide) (by decide))
              unfold m_Model_eval_b233 m_Model_eval_b569
              rw [if_pos ((hi4 102 (by decide) (by decide)).trans g102)]
              exact b580_l hn hE hsl hs4 hD hT hto3 (sameL_trans hs3 hs4') l4w (by omega) z6 (iv_of hv3) hw4 ⟨x, ⟨(hi4 105 (by decide) (by decide)).trans x1, x2⟩, by rw [hs4'.2.2.2.2.2.1]; exact x3, by rw [ei4, upd_ne (by decide), upd_at]⟩ ((hi4 102 (by decide) (by decide)).trans g102) ((hi4 107 (by decide) (by decide)).trans z11) z13 hu3 (rFm_trans hf3 ⟨fun q hq => hi4 q (nm_ne hq (by decide)) (nm_ne hq (by decide)), fun _ _ => rfl, fun _ _ => rfl, fun _ _ => rfl⟩) hk3
            · rw [decide_eq_false d, b1_f, if_pos (show nI 0 = (0 : Int32) from rfl), show (4 : Int32) = nI 4 from rfl, r_fails, om_s, om_s]
              exact flr 4 (by decide) (by rw [ei, ec, if_neg (fun h => d ((lex76 _).mp h.2))])
        · have eg : (tMem (lLst l3))[lNx l3]? = none := List.getElem?_eq_none c
          rw [ilt_n (by omega), show (4 : Int32) = nI 4 from rfl, r_fails, om_s, om_s]
          exact flr 4 (by decide) (by rw [ei]; unfold aClose; rw [eg])
      | false =>
        rw [if_neg (show ¬ nI (if false then 40 else 45) = (40 : Int32) by decide)]
        unfold m_Model_minus
        have kN : ¬ wK w = 4 := by rw [ew]; show ¬ 1 = 4; decide
        cases got with
        | none =>
          rw [if_pos (rO_none z13), show (4 : Int32) = nI 4 from rfl, r_fails, om_s, om_s]
          exact flr 4 (by decide) (by unfold aInner; rw [l3w]; dsimp only; rw [if_neg kN])
        | some y =>
          have ei : aInner G' N' F' l3 R (some y) = (G', N', F', lSetWs l3 (lWs l) :: R, 3, none, some (1, 25, 1, 4, [y], [], .nil)) := by
            unfold aInner
            rw [l3w]
            dsimp only
            rw [if_neg kN]
            unfold aSupply
            dsimp only
            rw [ew]
            rfl
          rw [ei] at hto3 hv3
          obtain ⟨l4, el4⟩ : ∃ l4, l4 = lSetWs l3 (lWs l) := ⟨_, rfl⟩
          rw [← el4] at hto3 hv3
          have hs4' : sameL l3 l4 := by rw [el4]; exact sameL_ws _ _
          have l4w : lWs l4 = lWs l := by rw [el4]; rfl
          have l4n : lNx l4 = lNx l3 := by rw [el4]; rfl
          have l4wt : lvWaits (l4 :: R) = lvWaits (l :: R) := by rw [lvW_c, lvW_c, l4w]
          have p98 : i' 98 - 1 = nI (lvWaits (l4 :: R)) := by
            rw [z9.2.2.1, l3wt, l4wt, rI_pred (by omega) (by omega), Nat.add_sub_cancel]
          rw [if_neg (rO_some z13), ob1_s, ob1_s, p98, om_om]
          obtain ⟨i4, ei4⟩ : ∃ i4, i4 = upd i' 98 (nI (lvWaits (l4 :: R))) := ⟨_, rfl⟩
          rw [← ei4]
          have hi4 : ∀ q, q ≠ 98 → i4 q = i' q := fun q h2 => by rw [ei4, upd_ne h2]
          have hw4 : rFull i4 j' a' b' B' bd G' N' F' (l4 :: R) := rFull_ws z9 hs4' (fun q hq => hi4 q (nm_ne hq (by decide))) (hi4 97 (by decide)) (by rw [ei4, upd_at]) (hi4 116 (by decide)) (hi4 117 (by decide))
          have hf4 : rFm i0 j0 a0 b0 i4 j' a' b' := rFm_trans hf3 (by rw [ei4]; exact rFm_i (by decide))
          refine PG_begins hto3 (Or.inl rfl) hv3 z6 hw4 (sameL_trans hs3 hs4') hu3 hf4 hk3 (fun i5 h5 => ?_) ?_
          · rw [if_pos rfl, om_s]
            unfold m_Model_eval_b233 m_Model_eval_b569
            rw [if_neg h5]
            exact ⟨3, rfl⟩
          · intro d1 d2 hto5
            rw [if_neg (show ¬ (1 : Int32) = 0 by decide)]
            have ea : aApply (G', N', F', l4 :: R, 3, none, some (1, 25, 1, 4, [y], [], .nil)) = aDo 25 [y] G' (nSetDone N' (nDone N' + 1)) F' (l4 :: R) := rfl
            have hv5 := iv_apply3 hv3 z6 d1 (fun w0 e0 v0 hv0 hn0 => by
              have e0 := Option.some.inj e0
              rw [← e0] at hv0
              have hv0 : v0 ∈ [y] := hv0
              rw [List.mem_singleton.mp hv0] at hn0 ⊢
              exact (numAt (n := n) z13 hn0).2)
            rw [ea] at hto5 hv5
            have h93 := rFull_93 hw4 d1
            obtain ⟨i5, ei5⟩ : ∃ i5, i5 = upd i4 93 (nI (nDone N' + 1)) := ⟨_, rfl⟩
            rw [← ei5] at h93 ⊢
            have hi5 : ∀ q, q ≠ 93 → i5 q = i4 q := fun q hq => by rw [ei5, upd_ne hq]
            obtain ⟨r, e1, e2, e3⟩ := VR_neg (n := n) (L := l4 :: R) h93.1.1 z13
            rw [e1] at hto5 hv5
            have hI5 : IV G' (nSetDone N' (nDone N' + 1)) F' (l4 :: R) := by
              obtain ⟨q1, ⟨q2, q3, q4, q5, q6⟩, q7, q8⟩ := iv_of hv3
              exact ⟨q1, ⟨q2, q3, by show nDone N' + 1 ≤ 20000; omega, q5, q6⟩, q7, q8⟩
            exact vr_then hn hE hsl hs4 hD hT e2 e3 hto5 hv5 (sameL_trans hs3 hs4') l4w (by omega) z6 (Nat.le_trans (dn_To hto3) (Nat.le_succ _)) hI5 h93 (by
              obtain ⟨x', ⟨xx1, xx2⟩, xx3, xx4⟩ := z10
              exact ⟨x', ⟨(hi5 105 (by decide)).trans ((hi4 105 (by decide)).trans xx1), xx2⟩, by rw [hs4'.2.2.2.2.2.1]; exact xx3, by rw [hi5 106 (by decide), hi4 106 (by decide), l4n]; exact xx4⟩) ((hi5 102 (by decide)).trans ((hi4 102 (by decide)).trans g102)) ((hi5 107 (by decide)).trans ((hi4 107 (by decide)).trans z11)) hu3 (rFm_trans hf4 (by rw [ei5]; exact rFm_i (by decide))) hk3
    · intro i' j' a' b' v' h'
      rw [if_neg h']
      exact ⟨3, rfl⟩
  cases pa with
  | true => rw [if_pos (show nI (if true then 40 else 45) = (40 : Int32) from rfl)]; exact after
  | false => rw [if_neg (show ¬ nI (if false then 40 else 45) = (40 : Int32) by decide)]; exact after

