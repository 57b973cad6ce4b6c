/-! after a value: the signs that come -/
theorem lvW_c {l : Lv} {R : List Lv} : lvWaits (l :: R) = (lWs l).length + lvWaits R := rfl
/-- only list, row of waiting, and waiting change -/
theorem rLc_ws {i i' : Nat → Int32} {l l' : Lv} {R : List Lv} (h : rLc i (l :: R)) (hs : sameL l l') (h97 : i' 97 = i 97) (h98 : i' 98 = nI (lvWaits (l' :: R))) (h116 : i' 116 = i 116) (h117 : i' 117 = i 117) : rLc i' (l' :: R) := ⟨h97.trans h.1, h98, by rw [h116, lvCn_same hs]; exact h.2.2.1, by rw [h117, lvCn_same hs]; exact h.2.2.2⟩
theorem rFull_ws {i : Nat → Int32} {j : Nat → Int64} {a : Nat → Nat → Int32} {b : Nat → Nat → Int64} {i' : Nat → Int32} {B : RB4} {bd : Nat} {G : GS} {N : LN} {F : List Fr} {l l' : Lv} {R : List Lv} (h : rFull i j a b B bd G N F (l :: R)) (hs : sameL l l') (hi : ∀ q, q ∉ lsI → i' q = i q) (h97 : i' 97 = i 97) (h98 : i' 98 = nI (lvWaits (l' :: R))) (h116 : i' 116 = i 116) (h117 : i' 117 = i 117) : rFull i' j a b B bd G N F (l' :: R) := ⟨rWk_i (rWk_same hs h.1) (fun q hq => hi q ((show ∀ q ∈ woI ++ [118, 103, 104], q ∉ lsI by decide) q hq)), rLc_ws h.2 hs h97 h98 h116 h117⟩
/-- a value is laid on the stack -/
theorem rFull_top {i : Nat → Int32} {j : Nat → Int64} {a : Nat → Nat → Int32} {b : Nat → Nat → Int64} {B : RB4} {bd : Nat} {G : GS} {N : LN} {F : List Fr} {L : List Lv} {T : Nat} {v : Int64} (h : rFull i j a b B bd G N F L) : rUp a b B a (svl b 111 T v) B ∧ rFull i j a (svl b 111 T v) B bd G N F L := by
  have hb : ∀ q, q ≠ 111 → svl b 111 T v q = b q := fun q hq => updB_ne hq
  obtain ⟨hu, hw⟩ := rWo_ab (a' := a) (b' := svl b 111 T v) h.1.1 (fun _ _ => rfl) (fun q hq => hb q (nm_ne hq (by decide)))
  exact ⟨hu, ⟨hw, rRow_up hu L h.1.2.1 (fun _ _ => ⟨rfl, rfl⟩) (fun q _ => ⟨rfl, by rw [hb 122 (by decide)]⟩) (fun q _ => by rw [hb 123 (by decide)]), h.1.2.2⟩, h.2⟩
theorem iv_apply3 {G : GS} {N : LN} {F : List Fr} {L : List Lv} {got : Option Tr} {rd : Option Wt} (h : aInv2 (G, N, F, L, 3, got, rd)) (hs : nState N = 1) (hd : nDone N < 20000) (hb : ∀ w, rd = some w → ∀ v ∈ wVals w, isN v = true → -1000000000 ≤ tNum v ∧ tNum v ≤ 1000000000) : aInv2 (aApply (G, N, F, L, 3, got, rd)) := by
  have hi := iv_of h
  obtain ⟨⟨_, _, _, _, h5⟩, _⟩ := h
  obtain ⟨t1, t3, t4, t2⟩ := h5 hs
  have hi' : IV G (nSetDone N (nDone N + 1)) F L := by
    obtain ⟨a1, ⟨n1, n2, n3, n4, n5⟩, a3, a4⟩ := hi
    exact ⟨a1, ⟨n1, n2, by show nDone N + 1 ≤ 20000; omega, n4, n5⟩, a3, a4⟩
  obtain ⟨w, rfl, w1, w2, w3⟩ := t3 rfl
  have hb := hb w rfl
  unfold aApply
  dsimp only
  rw [if_neg (by decide)]
  by_cases hk : wK w = 2
  · rw [if_pos hk]; exact iv_call hi' hk w1 w2
  · rw [if_neg hk]
    have hk1 : wK w = 1 := by rcases w1.2.2.2.1 with h | h | h <;> omega
    obtain ⟨c1, c2, c3⟩ := w1.2.2.2.2.1 hk1
    unfold aDo
    dsimp only
    cases hf : aFits (aKind (wCode w)) (wVals w) with
    | false => rw [if_pos rfl]; exact iv_fail hi' (by decide)
    | true =>
      rw [if_neg (show ¬ true = false by decide)]
      by_cases g1 : wCode w ≤ 19
      · rw [if_pos g1]; exact iv_turtle hi'
      rw [if_neg g1]
      by_cases g2 : wCode w ≤ 31
      · rw [if_pos g2]; exact iv_number hi'
      rw [if_neg g2]
      by_cases g3 : wCode w ≤ 49
      · rw [if_pos g3]; exact iv_value hi'
      rw [if_neg g3]
      by_cases g4 : wCode w ≤ 59
      · rw [if_pos g4]; exact iv_other hi'
      rw [if_neg g4]
      exact iv_running hi' (by omega) c2 hf hb
theorem wsStr_le {l : Lv} (h : lOk l) : wsStr (lWs l) ≤ 4 := by
  unfold wsStr
  split
  · decide
  · next w ws e =>
    have := h.2.2.2.2.2.2.2.2.2.2.2.2.2.2 w (by rw [e]; exact List.mem_cons_self)
    exact this.1.2.2.1
theorem sign_l {n bd d : Nat} {g : GB} (hn : 100000 ≤ n) (hE : EvalS bd d g.1) {c0 : Cfg} {l : Lv} {R : List Lv} {T s : Nat} {i0 : Nat → Int32} {j0 : Nat → Int64} {a0 : Nat → Nat → Int32} {b0 : Nat → Nat → Int64} {B0 : RB4} (hsl : s = wsStr (lWs l)) (hs4 : s ≤ 4) (hD : 6 * (151 - (l :: R).length) + (401 - lvWaits (l :: R)) ≤ d + 1) (hT : tpOk T (l :: R)) : ∀ (m f : Nat) (i : Nat → Int32) (j : Nat → Int64) (a : Nat → Nat → Int32) (b : Nat → Nat → Int64) (B : RB4) (G : GS) (N : LN) (F : List Fr) (l1 : Lv) (got : Option Tr) (v : Int64), m = (tMem (lLst l)).length - lNx l1 → m < f → To bd c0 (G, N, F, l1 :: R, 1, got, none) → sameL l l1 → lWs l1 = lWs l → lNx l < lNx l1 → nState N = 1 → IV G N F (l1 :: R) → rFull i j a b B bd G N F (l1 :: R) → rTop i a b B l1 → i 102 = 0 → i 107 = nI T → rO a b B got v → rUp a0 b0 B0 a b B → rFm i0 j0 a0 b0 i j a b → kT7 b0 b T → PG bd c0 l R T i0 j0 a0 b0 B0 (ZE bd c0 l R T b0 (fun l' => lWs l' = lWs l ∧ lNx l < lNx l' ∧ (∀ s, aSign l' = some s → aStrength s ≤ wsStr (lWs l)))) (m_Model_eval_b587 n g f i j a b (nI s) v (nI (sgK l1 s))) := by
  intro m
  induction m using Nat.strongRecOn with
  | _ m ih =>
    intro f i j a b B G N F l1 got v hm hf ht hs hws hnx hN hI hw htp h102 h107 hv hu hfm hk7
    obtain ⟨f, rfl⟩ : ∃ f', f = f' + 1 := ⟨f - 1, by omega⟩
    have hlo := IV_l hI
    have hwt : lvWaits (l1 :: R) = lvWaits (l :: R) := by rw [lvW_c, lvW_c, hws]
    have hmv : mapVals (l1 :: R) = mapVals (l :: R) := by rw [mapVals, mapVals, hs.2.2.2.2.2.2.2]
    have eL : lLst l1 = lLst l := hs.2.2.2.2.2.1
    have hw4 : lvWaits (l1 :: R) ≤ 400 := hI.2.2.1.2.2.1
    have htb := tp_le (L := l1 :: R) (T := T) (by unfold tpOk at hT ⊢; rw [hwt, hmv]; exact hT) hI
    rw [m_Model_eval_b587]
    cases hsg : aSign l1 with
    | none =>
      have hk0 : sgK l1 s = 0 := by unfold sgK; rw [hsg]
      rw [hk0, if_pos (by decide)]
      exact ⟨i, j, a, b, v, B, rfl, hu, hfm, Or.inl ⟨h102, G, N, F, l1, got, ht, ⟨hws, hnx, fun s' hs' => by rw [hsg] at hs'; cases hs'⟩, hs, hN, dn_To ht, hI, hw, htp, h107, hk7, hv⟩⟩
    | some sg =>
      have hkk : sgK l1 s = if s < aStrength sg then aStrength sg else 0 := by unfold sgK; rw [hsg]
      rcases Nat.lt_or_ge s (aStrength sg) with c | c
      rotate_left
      · have hk0 : sgK l1 s = 0 := by rw [hkk, if_neg (by omega)]
        rw [hk0, if_pos (by decide)]
        exact ⟨i, j, a, b, v, B, rfl, hu, hfm, Or.inl ⟨h102, G, N, F, l1, got, ht, ⟨hws, hnx, fun s' hs' => by rw [hsg] at hs'; cases hs'; rw [← hsl]; exact c⟩, hs, hN, dn_To ht, hI, hw, htp, h107, hk7, hv⟩⟩
      rw [hkk, if_pos c]
      -- the member ahead
      obtain ⟨x, ⟨x1, x2⟩, x3, x4⟩ := id htp
      obtain ⟨y1, y2, y3, p, y4, y5, y6⟩ := rListAt x3 hlo.2.1 x2
      have cn : lNx l1 < (tMem (lLst l1)).length := by
        rcases Nat.lt_or_ge (lNx l1) (tMem (lLst l1)).length with q | q
        · exact q
        · unfold aSign at hsg
          rw [List.getElem?_eq_none q] at hsg
          cases hsg
      have eg : (tMem (lLst l1))[lNx l1]? = some ((tMem (lLst l1))[lNx l1]'cn) := List.getElem?_eq_getElem cn
      have hmm := y6 (lNx l1) cn
      generalize (tMem (lLst l1))[lNx l1]'cn = mm at eg hmm
      have has9 : isW mm = true ∧ sg ≤ 6 ∧ tLet mm = [sgL sg] := by
        unfold aSign at hsg
        rw [eg] at hsg
        dsimp only at hsg
        split at hsg
        · next hc9 =>
          rcases sgn_word (tLet mm) with ⟨s', q1, q2, q3⟩ | ⟨q1, _⟩
          · have : sg = s' := by have := Option.some.inj hsg; omega
            rw [this]
            exact ⟨hc9.1, q1, q2⟩
          · exact absurd hc9.2 q1
        · cases hsg
      obtain ⟨hW, hsg6, hlt⟩ := has9
      have hst := aStr_le hsg6
      rw [show (0 : Int32) = nI 0 from rfl, ile_n (by omega)]
      have eset : aSettle G N F l1 R got = aMeetSign G N F l1 R got sg := by
        unfold aSettle
        rw [hsg]
        dsimp only
        rw [if_pos (by rw [hws, ← hsl]; exact c)]
      have hto1 := To_trans ht (To1 (bd := bd) hN)
      have hv1 := iv_settle (got := got) hI
      rw [eset] at hto1 hv1
      cases got with
      | none =>
        rw [show ((3 : Int64)) = (3 : Int64) from rfl, if_pos (show lg_cmp v 3 = nI 0 from rO_none hv), show (4 : Int32) = nI 4 from rfl, r_fails, om_s]
        exact PG_fail (by decide) hto1 hs hN hI hw.1 hu hfm hk7
      | some t =>
        have hvt : rV a b B t none v := hv
        rw [if_neg (show ¬ lg_cmp v 3 = nI 0 from rO_some hv), x1, ck_n (by omega), cl_n (by omega), y4, x4, nI_add, ck_n (by omega), cl_n (by omega)]
        obtain ⟨w9, ew9, hw9⟩ := r_isW_eq hmm hW
        obtain ⟨g1, g2, g3, g4, g5, g6, g7, q, g8, g9, g10⟩ := id hw9
        have h1l : (tLet mm).length = 1 := by rw [hlt]; rfl
        have hl1 : a 1 q = nI (sgL sg) := by
          have := g10 0 (by rw [hlt]; exact Nat.zero_lt_one)
          simp only [hlt] at this
          exact this
        rw [ew9, r_whatW (by omega), ob0_s, ck_n (by omega), cl_n (by omega), g8, ck_n (by omega), cl_n (by omega), ob1_s, hl1, ob1_s, ob1_s, show nI (lNx l1) + (1 : Int32) = nI (lNx l1 + 1) from nI_add _ 1]
        obtain ⟨w, ew⟩ : ∃ w : Wt, w = (1, aSignWord sg, 2, aStrength sg, [t], [], .nil) := ⟨_, rfl⟩
        have em : aMeetSign G N F l1 R (some t) sg = if 400 ≤ lvWaits (l1 :: R) then aFail 6 G N F (lSetNx l1 (lNx l1 + 1) :: R) else (G, N, F, lSetWs (lSetNx l1 (lNx l1 + 1)) (w :: lWs l1) :: R, 0, none, none) := by
          show aSettleLast G N F (lSetNx l1 (lNx l1 + 1) :: R) (1, aSignWord sg, 2, aStrength sg, [t], [], .nil) = _
          rw [← ew]
          unfold aSettleLast
          rw [if_neg (by rw [ew]; show ¬ 2 = 0; decide)]
          rfl
        rw [em] at hto1 hv1
        unfold m_Model_waits
        have p98 : upd i 106 (nI (lNx l1 + 1)) 98 = nI (lvWaits (l1 :: R)) := (upd_ne (by decide)).trans hw.2.2.1
        rw [p98, show (400 : Int32) = nI 400 from rfl]
        rcases (by omega : lvWaits (l1 :: R) = 400 ∨ lvWaits (l1 :: R) < 400) with cw | cw
        · rw [if_pos (by omega)] at hto1 hv1
          rw [ieq_p (by omega), show (6 : Int32) = nI 6 from rfl, r_fails, om_s, om_s, if_pos (show (0 : Int32) = nI 0 from rfl)]
          have hwk : rWk (upd i 106 (nI (lNx l1 + 1))) j a b B bd G N F (lSetNx l1 (lNx l1 + 1) :: R) := rWk_i (rWk_same (sameL_nx l1 _) hw.1) (fun q hq => upd_ne (fun h => by subst h; revert hq; decide))
          have hI6 : IV G N F (lSetNx l1 (lNx l1 + 1) :: R) := by
            obtain ⟨i1, i2, ⟨i3, i4⟩, i5⟩ := id hI
            refine ⟨i1, i2, ⟨fun l' hl' => ?_, i4⟩, fun h => lvBot_set (i5 h) (fun e => e)⟩
            rcases List.mem_cons.mp hl' with e | e
            · rw [e]
              exact ⟨hlo.1, hlo.2.1, cn, hlo.2.2.2⟩
            · exact i3 l' (List.mem_cons_of_mem _ e)
          exact PG_fail (by decide) hto1 (sameL_trans hs (sameL_nx l1 _)) hN hI6 hwk hu (rFm_trans hfm (rFm_i (by decide))) hk7
        · rw [if_neg (by omega)] at hto1 hv1
          rw [ieq_n (by omega), ob1_s, ob1_s, om_s, if_neg (show ¬ (1 : Int32) = nI 0 by decide)]
          obtain ⟨l2, el2⟩ : ∃ l2, l2 = lSetWs (lSetNx l1 (lNx l1 + 1)) (w :: lWs l1) := ⟨_, rfl⟩
          rw [← el2] at hto1 hv1
          have hs2 : sameL l1 l2 := by rw [el2]; exact sameL_trans (sameL_nx l1 _) (sameL_ws _ _)
          have l2w : lWs l2 = w :: lWs l1 := by rw [el2]; rfl
          have l2n : lNx l2 = lNx l1 + 1 := by rw [el2]; rfl
          have l2wt : lvWaits (l2 :: R) = lvWaits (l1 :: R) + 1 := by rw [lvW_c, lvW_c, l2w, List.length_cons]; omega
          have p107 : upd (upd i 106 (nI (lNx l1 + 1))) 98 (nI (lvWaits (l1 :: R)) + 1) 107 = nI T := (upd_ne (by decide)).trans ((upd_ne (by decide)).trans h107)
          rw [p107, ck_n (by omega), cl_n (by omega), ob1_s, ob1_s, ob1_s, show nI T + (1 : Int32) = nI (T + 1) from nI_add T 1, show nI (lvWaits (l1 :: R)) + (1 : Int32) = nI (lvWaits (l2 :: R)) by rw [l2wt]; exact nI_add _ 1]
          obtain ⟨i3, ei3⟩ : ∃ i3, i3 = upd (upd (upd i 106 (nI (lNx l1 + 1))) 98 (nI (lvWaits (l2 :: R)))) 107 (nI (T + 1)) := ⟨_, rfl⟩
          obtain ⟨b2, eb2⟩ : ∃ b2, b2 = svl b 111 T v := ⟨_, rfl⟩
          rw [← ei3, ← eb2]
          have hi3 : ∀ q, q ≠ 106 → q ≠ 98 → q ≠ 107 → i3 q = i q := fun q h1 h2 h3 => by rw [ei3, upd_ne h3, upd_ne h2, upd_ne h1]
          have i398 : i3 98 = nI (lvWaits (l2 :: R)) := by rw [ei3, upd_ne (by decide), upd_at]
          have i3106 : i3 106 = nI (lNx l2) := by rw [ei3, upd_ne (by decide), upd_ne (by decide), upd_at, l2n]
          have i3107 : i3 107 = nI (T + 1) := by rw [ei3, upd_at]
          have hb111 : b2 111 T = v := by rw [eb2]; exact svl_at
          have hb111n : ∀ q, q ≠ T → b2 111 q = b 111 q := fun q hq => by rw [eb2]; exact svl_ne hq
          have hbn : ∀ q, q ≠ 111 → b2 q = b q := fun q hq => by rw [eb2]; exact updB_ne hq
          obtain ⟨hu2, hwt2⟩ := rFull_top (T := T) (v := v) hw
          rw [← eb2] at hu2 hwt2
          have hw2 : rFull i3 j a b2 B bd G N F (l2 :: R) := rFull_ws hwt2 hs2 (fun q hq => hi3 q (nm_ne hq (by decide)) (nm_ne hq (by decide)) (nm_ne hq (by decide))) (hi3 97 (by decide) (by decide) (by decide)) i398 (hi3 116 (by decide) (by decide) (by decide)) (hi3 117 (by decide) (by decide) (by decide))
          have htp2 : rTop i3 a b2 B l2 := ⟨x, ⟨(hi3 105 (by decide) (by decide) (by decide)).trans x1, x2⟩, by rw [hs2.2.2.2.2.2.1]; exact (rV_up hu2 _).1 _ x3, i3106⟩
          have hf2 : rFm i j a b i3 j a b2 := ⟨fun q hq => hi3 q (nm_ne hq (by decide)) (nm_ne hq (by decide)) (nm_ne hq (by decide)), fun _ _ => rfl, fun _ _ => rfl, fun q hq => hbn q (nm_ne hq (by decide))⟩
          have hk2 : kT7 b0 b2 T := fun q hq => by rw [hb111n q (by omega)]; exact hk7 q hq
          have hlen2 : (l2 :: R).length = (l :: R).length := rfl
          have hT2 : tpOk (T + 1) (l2 :: R) := by
            have e1 : mapVals (l2 :: R) = mapVals (l :: R) := by rw [mapVals, mapVals, hs2.2.2.2.2.2.2.2, hs.2.2.2.2.2.2.2]
            unfold tpOk at hT ⊢
            rw [e1, l2wt, hwt, hlen2]
            omega
          have hev := hE i3 j a b2 B G N F l2 R (T + 1) hN (iv_of hv1) hw2 htp2 ((hi3 102 (by decide) (by decide) (by decide)).trans h102) i3107 hT2 (fun h => by rw [l2w] at h; cases h) (by rw [l2wt, hwt, hlen2]; omega)
          have l2s : wsStr (lWs l2) = aStrength sg := by rw [l2w, ew]; rfl
          rw [l2s] at hev
          refine PG_bind hev hto1 (sameL_trans hs hs2) (rUp_trans hu hu2) (rFm_trans hfm hf2) hk2 (Nat.le_succ T) ?_ ?_
          · intro i' j' a' b' v' B' gu gf g102 gz
            obtain ⟨G', N', F', l3, got', z1, ⟨z2, z3, z4⟩, z5, z6, z7, z8, z9, z10, z11, z12, z13⟩ := gz
            have l3w : lWs l3 = w :: lWs l1 := z2.trans l2w
            have hs3 := sameL_trans (sameL_trans hs hs2) z5
            have hto3 := To_trans (To_trans hto1 z1) (To1 (bd := bd) z6)
            have hv3 := iv_settle (got := got') z8
            have hno : aSettle G' N' F' l3 R got' = aInner G' N' F' l3 R got' := settle_no (by rw [z2, l2s]; exact z4)
            rw [hno] at hto3 hv3
            have hu3 := rUp_trans (rUp_trans hu hu2) gu
            have hf3 := rFm_trans (rFm_trans hfm hf2) gf
            have hk3 : kT7 b0 b' T := kT7_trans hk2 z12 (Nat.le_succ T)
            rw [if_pos (show i' 102 = nI 0 from g102)]
            cases got' with
            | none =>
              have ei : aInner G' N' F' l3 R none = aFail 4 G' N' F' (l3 :: R) := by
                unfold aInner
                rw [l3w]
                dsimp only
                rw [if_neg (by rw [ew]; show ¬ 1 = 4; decide)]
              rw [ei] at hto3
              rw [if_pos (show lg_cmp v' 3 = nI 0 from rO_none z13), show (4 : Int32) = nI 4 from rfl, r_fails, om_s]
              exact PG_fail (by decide) hto3 hs3 z6 z8 z9.1 hu3 hf3 hk3
            | some y =>
              have hvy : rV a' b' B' y none v' := z13
              obtain ⟨w', ew'⟩ : ∃ w' : Wt, w' = (1, aSignWord sg, 2, aStrength sg, [t, y], [], .nil) := ⟨_, rfl⟩
              have ei : aInner G' N' F' l3 R (some y) = (G', N', F', lSetWs l3 (lWs l1) :: R, 3, none, some w') := by
                unfold aInner
                rw [l3w]
                dsimp only
                rw [if_neg (by rw [ew]; show ¬ 1 = 4; decide), ew']
                unfold aSupply
                dsimp only
                rw [if_pos (by rw [ew]; show 2 ≤ 1 + 1; decide), ew]
                rfl
              rw [ei] at hto3 hv3
              rw [if_neg (show ¬ lg_cmp v' 3 = nI 0 from rO_some z13), ob1_s, ob1_s, ob1_s, ob1_s]
              obtain ⟨l4, el4⟩ : ∃ l4, l4 = lSetWs l3 (lWs l1) := ⟨_, rfl⟩
              rw [← el4] at hto3 hv3
              have hs4' : sameL l3 l4 := by rw [el4]; exact sameL_ws _ _
              have l4w : lWs l4 = lWs l1 := by rw [el4]; rfl
              have l4n : lNx l4 = lNx l3 := by rw [el4]; rfl
              have l4wt : lvWaits (l4 :: R) = lvWaits (l1 :: R) := by rw [lvW_c, lvW_c, l4w]
              have l3wt : lvWaits (l3 :: R) = lvWaits (l1 :: R) + 1 := by rw [lvW_c, lvW_c, l3w, List.length_cons]; omega
              have p98' : i' 98 - 1 = nI (lvWaits (l4 :: R)) := by rw [z9.2.2.1, l3wt, rI_pred (by omega) (by omega), Nat.add_sub_cancel, l4wt]
              have p107' : upd i' 98 (i' 98 - 1) 107 - 1 = nI T := by rw [upd_ne (by decide), z11, rI_pred (by omega) (by omega), Nat.add_sub_cancel]
              rw [p107', p98']
              obtain ⟨i4, ei4⟩ : ∃ i4, i4 = upd (upd i' 98 (nI (lvWaits (l4 :: R)))) 107 (nI T) := ⟨_, rfl⟩
              rw [← ei4]
              have hi4 : ∀ q, q ≠ 98 → q ≠ 107 → i4 q = i' q := fun q h1 h2 => by rw [ei4, upd_ne h2, upd_ne h1]
              have i498 : i4 98 = nI (lvWaits (l4 :: R)) := by rw [ei4, upd_ne (by decide), upd_at]
              have i4107 : i4 107 = nI T := by rw [ei4, upd_at]
              have hw4 : rFull i4 j' a' b' B' bd G' N' F' (l4 :: R) := rFull_ws z9 hs4' (fun q hq => hi4 q (nm_ne hq (by decide)) (nm_ne hq (by decide))) (hi4 97 (by decide) (by decide)) i498 (hi4 116 (by decide) (by decide)) (hi4 117 (by decide) (by decide))
              have hf4 : rFm i' j' a' b' i4 j' a' b' := ⟨fun q hq => hi4 q (nm_ne hq (by decide)) (nm_ne hq (by decide)), fun _ _ => rfl, fun _ _ => rfl, fun _ _ => rfl⟩
              have hsl4 := sameL_trans hs3 hs4'
              refine PG_begins hto3 (Or.inl rfl) hv3 z6 hw4 hsl4 hu3 (rFm_trans hf3 hf4) hk3 (fun i5 h5 => ?_) ?_
              · unfold m_Model_eval_b767
                rw [if_pos (show (0 : Int32) = nI 0 from rfl), if_neg h5]
                exact ⟨3, rfl⟩
              · intro d1 d2 hto5
                rw [if_neg (show ¬ (1 : Int32) = nI 0 by decide)]
                have ea : aApply (G', N', F', l4 :: R, 3, none, some w') = aDo (aSignWord sg) [t, y] G' (nSetDone N' (nDone N' + 1)) F' (l4 :: R) := by
                  rw [ew']
                  rfl
                have hb5 : ∀ w0, some w' = some w0 → ∀ v0 ∈ wVals w0, isN v0 = true → -1000000000 ≤ tNum v0 ∧ tNum v0 ≤ 1000000000 := by
                  intro w0 e0 v0 hv0 hn0
                  have e0 := Option.some.inj e0
                  rw [← e0, ew'] at hv0
                  have hv0 : v0 ∈ [t, y] := hv0
                  simp only [List.mem_cons, List.not_mem_nil, or_false] at hv0
                  rcases hv0 with e | e
                  · rw [e] at hn0 ⊢; exact (numAt (n := n) hvt hn0).2
                  · rw [e] at hn0 ⊢; exact (numAt (n := n) hvy hn0).2
                have hv5 := iv_apply3 hv3 z6 d1 hb5
                rw [ea] at hto5 hv5
                have h93 := rFull_93 hw4 d1
                obtain ⟨i5, ei5⟩ : ∃ i5, i5 = upd i4 93 (nI (nDone N' + 1)) := ⟨_, rfl⟩
                rw [← ei5] at h93 ⊢
                have hi5 : ∀ q, q ≠ 93 → i5 q = i4 q := fun q hq => by rw [ei5, upd_ne hq]
                have bT : b' 111 T = v := (z12 T (Nat.lt_succ_self T)).trans hb111
                rw [(hi5 107 (by decide)).trans i4107, ck_n (by omega), cl_n (by omega), bT]
                obtain ⟨r, e1, e2, e3⟩ := VR_sign (n := n) (L := l4 :: R) hn hsg6 h93.1.1 ((rV_up (rUp_trans hu2 gu) _).1 _ hvt) hvy
                rw [e1] at hto5 hv5
                have hI5 : IV G' (nSetDone N' (nDone N' + 1)) F' (l4 :: R) := by
                  obtain ⟨q1, ⟨q2, q3, q4, q5, q6⟩, q7, q8⟩ := iv_of hv3
                  exact ⟨q1, ⟨q2, q3, by show nDone N' + 1 ≤ 20000; omega, q5, q6⟩, q7, q8⟩
                have hdd : nDone c0.2.1 ≤ nDone (nSetDone N' (nDone N' + 1)) := by
                  have := dn_To hto3
                  show _ ≤ nDone N' + 1
                  exact Nat.le_trans this (Nat.le_succ _)
                have hpg := PG_vr (c1 := c0) (l1 := l) (T := T) (T' := T) (i0 := i0) (j0 := j0) (a0 := a0) (b0 := b0) (B0 := B0) (ok := fun _ => True) e2 hto5 hv5 (fun e he => by rw [he] at hv5; exact e13 hv5) (fun G2 N2 F2 v2 he => by rw [e3 G2 N2 F2 v2 he]; exact ⟨z6, rfl⟩) hI5 z6 hdd ((hi5 102 (by decide)).trans ((hi4 102 (by decide) (by decide)).trans g102)) h93.1.2.1 h93.1.2.2.1 h93.1.2.2.2 (fun i2 G2 N2 F2 v2 he hq => rAs_G h93.1.2.2.1 (hq 118 (by decide)) (hq 103 (by decide)) (hq 104 (by decide))) h93.2 (by
                  obtain ⟨x', ⟨xx1, xx2⟩, xx3, xx4⟩ := z10
                  exact ⟨x', ⟨(hi5 105 (by decide)).trans ((hi4 105 (by decide) (by decide)).trans xx1), xx2⟩, by rw [hs4'.2.2.2.2.2.1]; exact xx3, by rw [hi5 106 (by decide), hi4 106 (by decide) (by decide), l4n]; exact xx4⟩) ((hi5 107 (by decide)).trans i4107) hsl4 trivial hu3 (rFm_trans (rFm_trans hf3 hf4) (by rw [ei5]; exact rFm_i (by decide))) hk3
                have hB0 : B0.1 ≤ 120000 ∧ B0.2.1 ≤ 300000 ∧ B0.2.2.1 ≤ 90000 ∧ B0.2.2.2 ≤ 90000 := by
                  obtain ⟨⟨q1, q2, q3, q4, q5, q6, q7, q8⟩, _⟩ := hu3
                  omega
                refine PG_bind hpg To_refl (sameL_refl l) (rUp_refl hB0) rFm_refl kT7_refl (Nat.le_refl _) ?_ ?_
                · intro i6 j6 a6 b6 v6 B6 gu6 gf6 g1026 gz6
                  obtain ⟨G6, N6, F6, got6, k1, k2, k3', k4, k5', k6, k7', k8', k9⟩ := gz6
                  unfold m_Model_eval_b767
                  rw [if_pos g1026, r_signAhead (s := s) (by omega) (IV_l k4) k6, ob0_s]
                  have hbk : kT7 b0 b6 T := fun q hq => by rw [k8']; exact hk3 q hq
                  exact ih ((tMem (lLst l)).length - lNx l4) (by rw [eL] at cn; omega) f i6 j6 a6 b6 B6 G6 N6 F6 l4 got6 v6 rfl (by rw [eL] at cn; omega) k1 hsl4 (l4w.trans hws) (by omega) k2 k4 k5' k6 g1026 k7' k9 gu6 gf6 hbk
                · intro i6 j6 a6 b6 v6 h6
                  unfold m_Model_eval_b767
                  rw [if_neg h6]
                  exact ⟨3, rfl⟩
          · intro i' j' a' b' v' hne
            rw [if_neg (show ¬ i' 102 = nI 0 from hne)]
            exact ⟨3, rfl⟩

