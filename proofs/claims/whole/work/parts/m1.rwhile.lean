/-! while in the reference -/
theorem rLc_chg {i : Nat → Int32} {x y : Lv} {L : List Lv} (h : rLc i (x :: L)) (hx : lK x = 9 ∨ lK x = 4) (hy : lK y = 9 ∨ lK y = 4) (h1 : lWs x = []) (h2 : lWs y = []) : rLc i (y :: L) := by
  obtain ⟨g1, g2, g3, g4⟩ := h
  refine ⟨g1, by rw [lvW_0 h2, ← lvW_0 h1]; exact g2, ?_, ?_⟩
  · rw [g3, lvCn, lvCn, if_neg (by unfold k3; simp; omega), if_neg (by unfold k3; simp; omega)]
  · rw [g4, lvCn, lvCn, if_neg (by unfold k5; simp; omega), if_neg (by unfold k5; simp; omega)]
theorem rFull_chg {i : Nat → Int32} {j : Nat → Int64} {a : Nat → Nat → Int32} {b : Nat → Nat → Int64} {B : RB4} {bd : Nat} {G : GS} {N : LN} {F : List Fr} {x y : Lv} {L : List Lv} (h : rFull i j a b B bd G N F (x :: L)) (hx : lK x = 9 ∨ lK x = 4) (hy : lK y = 9 ∨ lK y = 4) (h1 : lWs x = []) (h2 : lWs y = []) (h3 : lVals y = []) : rFull i j a b B bd G N F (y :: L) :=
  ⟨⟨h.1.1, ⟨(fun e => by omega), (fun e => by omega), (fun e => by omega), h.1.2.1.2.2.2⟩, rAs_push (rAs_pop h.1.2.2.1 (by omega) (by omega)) (by omega) (by omega), rPd_push (rPd_pop h.1.2.2.2) h3 (by omega)⟩, rLc_chg h.2 hx hy h1 h2⟩
theorem while_l {n bd D : Nat} {g : GB} (hn : 1000 ≤ n) (hR : RunsS bd D g.2.2.2.1) {c1 : Cfg} {N0 : LN} {l : Lv} {R : List Lv} {T T' : Nat} {i0 : Nat → Int32} {j0 : Nat → Int64} {a0 : Nat → Nat → Int32} {b0 : Nat → Nat → Int64} {B0 : RB4} {t u : Tr} {v1 v3 : Int64} (hN0 : nDone N0 ≤ cDone c1) (htp : rTop i0 a0 b0 B0 l) (hTT : T ≤ T') (hD : 6 * (151 - (l :: R).length - 1) + (401 - lvWaits (l :: R)) + 1 ≤ D) (hT : T' ≤ 10 * lvWaits (l :: R) + 10 * ((l :: R).length + 1) + mapVals (l :: R)) : ∀ (m f : Nat) (i : Nat → Int32) (j : Nat → Int64) (a : Nat → Nat → Int32) (b : Nat → Nat → Int64) (B : RB4) (G : GS) (N : LN) (F : List Fr) (x : Lv), m = 20000 - nDone N → m + 2 < f → To bd c1 (G, N, F, x :: l :: R, 0, none, none) → nState N = 1 → IV G N F (x :: l :: R) → lK x = 9 → lLst x = t → lOth x = u → lNx x = 0 → lWs x = [] → rFull i j a b B bd G N F (x :: l :: R) → i 105 = i0 105 → i 106 = i0 106 → i 102 = 0 → i 107 = nI T' → rV a b B t none v1 → rV a b B u none v3 → rUp a0 b0 B0 a b B → rFm i0 j0 a0 b0 i j a b → kT7 b0 b T → PG bd c1 l R T i0 j0 a0 b0 B0 (ZL bd c1 N0 l R T b0) (m_Model_whiled_b24 n g f i j a b v1 v3 (nI 1)) := by
  intro m
  induction m using Nat.strongRecOn with
  | _ m ih =>
    intro f i j a b B G N F x hm hf ht hN hI xk xt xu xn xw hw h105 h106 h102 h107 hv1 hv3 hu hfm hk7
    have hlen : (x :: l :: R).length ≤ 150 := hI.2.2.1.2.1
    have hlo := IV_l hI
    have xv := lOk_vals hlo (by omega)
    obtain ⟨f, rfl⟩ : ∃ f', f = f' + 1 := ⟨f - 1, by omega⟩
    obtain ⟨f, rfl⟩ : ∃ f', f = f' + 1 := ⟨f - 1, by omega⟩
    have tp : ∀ y : Lv, lWs y = [] → lVals y = [] → tpOk T' (y :: l :: R) := fun y h1 h2 => by
      unfold tpOk
      rw [lvW_0 h1, mapV_0 h2]
      simp only [List.length_cons] at hT ⊢
      omega
    rw [m_Model_whiled_b24, if_neg (by decide)]
    have hrun := hR i j a b B G N F x (l :: R) T' v1 hN hI hw xw xn h102 h107 (tp x xw xv) (by rw [xt]; exact hv1) (by rw [lvW_0 xw]; simp only [List.length_cons] at hD ⊢; omega)
    rw [show decide (6 ≤ lK x) = true by rw [xk]; rfl, b1_t, show nI 1 = (1 : Int32) from rfl] at hrun
    refine PG_bindL hrun (by omega) (by omega) (by omega) ht hu hfm hk7 hTT ?_ ?_
    · intro i' j' a' b' w B' gu gf g102 gz
      obtain ⟨G', N', F', x', got, z1, z2, z3, z4, z5, z6, z7, z8, z9, z10, z11, z12, z13⟩ := gz
      have xk' : lK x' = 9 := z2.1.trans xk
      have xt' : lLst x' = t := z2.2.2.2.2.2.1.trans xt
      have xu' : lOth x' = u := z2.2.2.2.2.1.trans xu
      have xv' : lVals x' = [] := z2.2.2.2.2.2.2.2.trans xv
      have hto := To_trans ht z1
      have ed : ∀ q, aDone G' N' F' x' (l :: R) q = aTest G' N' F' x' (l :: R) q := fun q => by
        unfold aDone
        rw [if_neg (by omega), if_neg (by omega), if_neg (by omega), if_neg (by omega), if_pos xk']
      have hto2 := To_trans hto (To2 (bd := bd) z5)
      have hv2 := iv_done (got := got) z7 z3
      rw [ed] at hto2 hv2
      have hu2 := rUp_trans hu gu
      have hf2 := rFm_trans hfm gf
      have hk2 := kT7_trans hk7 z12 hTT
      have fail : ∀ e, e ≤ 13 → aTest G' N' F' x' (l :: R) got = aFail e G' N' F' (x' :: l :: R) → PG bd c1 l R T i0 j0 a0 b0 B0 (ZL bd c1 N0 l R T b0) (om (m_Model_fails n i' j' a' b' (nI e)) (fun i j a b r => some (i, j, a, b, r))) := by
        intro e he hfl
        rw [hfl] at hto2
        rw [r_fails, om_s]
        exact PG_failL he (by omega) (by omega) (by omega) hto2 z5 z7 z8.1 hu2 hf2 hk2
      rw [if_pos g102]
      cases got with
      | none =>
        rw [if_pos (rO_none z13)]
        exact fail 4 (by decide) rfl
      | some tt =>
        rw [if_neg (rO_some z13), r_isTruth (by omega) z13, ob0_s]
        cases hW : isW tt with
        | false =>
          rw [show (false && (decide (tLet tt = wTrue) || decide (tLet tt = wFalse))) = false from rfl, b1_f, if_pos (show nI 0 = (0 : Int32) from rfl)]
          exact fail 3 (by decide) (by show (if isW tt = false then _ else _) = _; rw [if_pos hW])
        | true =>
          have eT : aTest G' N' F' x' (l :: R) (some tt) = if tLet tt = wTrue then (G', N', F', aChange x' 4 :: l :: R, 0, none, none) else if tLet tt = wFalse then aLeave 1 G' N' F' (x' :: l :: R) none else aFail 3 G' N' F' (x' :: l :: R) := by
            show (if isW tt = false then _ else _) = _
            rw [if_neg (by rw [hW]; decide)]
          rcases Classical.em (tLet tt = wTrue) with c | c
          · rw [if_pos c] at eT
            rw [eT] at hto2 hv2
            rw [decide_eq_true c, Bool.true_or, Bool.and_self, b1_t, if_neg (show ¬ nI 1 = (0 : Int32) by decide), r_isTrue (by omega) z13 hW, ob0_s, beq_iff_eq.mpr c, b1_t, if_neg (show ¬ nI 1 = (0 : Int32) by decide)]
            obtain ⟨y, ey⟩ : ∃ y, y = aChange x' 4 := ⟨_, rfl⟩
            rw [← ey] at hto2 hv2
            have yk : lK y = 4 := by rw [ey]; rfl
            have yw : lWs y = [] := by rw [ey]; exact z3
            have yv : lVals y = [] := by rw [ey]; exact xv'
            have yn : lNx y = 0 := by rw [ey]; rfl
            have yl : lLst y = u := by rw [ey]; exact xu'
            have yo : lOth y = t := by rw [ey]; exact xt'
            have hwy := rFull_chg (y := y) z8 (Or.inl xk') (Or.inr yk) z3 yw yv
            have hrun2 := hR i' j' a' b' B' G' N' F' y (l :: R) T' v3 z5 (iv_of hv2) hwy yw yn g102 z11 (tp y yw yv) (by rw [yl]; exact (rV_up gu _).1 _ hv3) (by rw [lvW_0 yw]; simp only [List.length_cons] at hD ⊢; omega)
            rw [show decide (6 ≤ lK y) = false by rw [yk]; rfl, b1_f, show nI 0 = (0 : Int32) from rfl] at hrun2
            refine PG_bindL hrun2 (by omega) (by omega) (by omega) hto2 hu2 hf2 hk2 hTT ?_ ?_
            · intro i2 j2 a2 b2 w2 B2 gu2 gf2 g1022 gz2
              obtain ⟨G2, N2, F2, y', got2, k1, k2, k3', k4, k5', k6, k7', k8', k9, k10, k11, k12, k13⟩ := gz2
              have yk' : lK y' = 4 := k2.1.trans yk
              have ed2 : ∀ q, aDone G2 N2 F2 y' (l :: R) q = (G2, N2, F2, y' :: l :: R, 4, none, none) := fun q => by
                unfold aDone
                rw [if_neg (by omega), if_neg (by omega), if_neg (by omega), if_pos yk']
              have hto3 := To_trans (To_trans hto2 k1) (To2 (bd := bd) k5')
              rw [ed2] at hto3
              have hv4 : aInv2 (G2, N2, F2, y' :: l :: R, 4, none, none) := iv_4 k7' (Or.inr (Or.inl yk'))
              rw [if_pos g1022]
              refine PG_beginsL (by omega) (by omega) (by omega) hto3 (Or.inr rfl) hv4 k5' k8' (rUp_trans hu2 gu2) (rFm_trans hf2 gf2) (kT7_trans hk2 k12 hTT) (fun i5 _ => ⟨3, by rw [if_pos (show (0 : Int32) = 0 from rfl)]⟩) ?_
              intro d1 d2 hto4
              rw [if_neg (show ¬ (1 : Int32) = 0 by decide)]
              have ea : aApply (G2, N2, F2, y' :: l :: R, 4, none, none) = (G2, nSetDone N2 (nDone N2 + 1), F2, aChange y' 9 :: l :: R, 0, none, none) := by
                show (G2, nSetDone N2 (nDone N2 + 1), F2, aTurnOn y' :: l :: R, 0, none, none) = _
                unfold aTurnOn
                rw [if_pos yk']
              have hI4 := iv_apply hv4 k5' (Or.inr rfl) d1 (fun w hw9 => by cases hw9) (fun l9 R9 e9 h9 => by have := (List.cons.inj e9).1; subst this; omega)
              have hw3 := rFull_93 k8' d1
              rw [ea] at hto4 hI4
              have hI3 := iv_of hI4
              have hm1 : 20000 - (nDone N2 + 1) < m := by
                have h1 : nDone N ≤ nDone N' := dn_To z1
                have h2 : nDone N' ≤ nDone N2 := dn_To k1
                omega
              unfold m_Model_whiled_b117
              have xv2 : lVals (aChange y' 9) = [] := k2.2.2.2.2.2.2.2.trans yv
              exact ih (20000 - (nDone N2 + 1)) hm1 (f + 1) _ j2 a2 b2 B2 G2 _ F2 (aChange y' 9) rfl (by omega) hto4 k5' hI3 rfl (k2.2.2.2.2.1.trans yo) (k2.2.2.2.2.2.1.trans yl) rfl k3' (rFull_chg hw3 (Or.inr yk') (Or.inl rfl) k3' k3' xv2) ((upd_ne (by decide)).trans (k9.trans (z9.trans h105))) ((upd_ne (by decide)).trans (k10.trans (z10.trans h106))) ((upd_ne (by decide)).trans g1022) ((upd_ne (by decide)).trans k11) ((rV_up (rUp_trans gu gu2) _).1 _ hv1) ((rV_up (rUp_trans gu gu2) _).1 _ hv3) (rUp_trans hu2 gu2) (rFm_trans (rFm_trans hf2 gf2) (rFm_i (by decide))) (kT7_trans hk2 k12 hTT)
            · intro i2 j2 a2 b2 w2 hne
              rw [if_neg hne]
              exact ⟨3, rfl⟩
          · rw [if_neg c] at eT
            rcases Classical.em (tLet tt = wFalse) with d | d
            · rw [if_pos d, leave1] at eT
              rw [eT] at hto2
              rw [decide_eq_false c, decide_eq_true d, Bool.false_or, Bool.and_self, b1_t, if_neg (show ¬ nI 1 = (0 : Int32) by decide), r_isTrue (by omega) z13 hW, ob0_s, beq_eq_false_iff_ne.mpr c, b1_f, if_pos (show nI 0 = (0 : Int32) from rfl)]
              unfold m_Model_whiled_b117
              rw [m_Model_whiled_b24, if_pos (show nI 0 = (0 : Int32) from rfl), ob1_s, ob1_s]
              have hi : ∀ q, q ≠ 97 → upd i' 97 (i' 97 - 1) q = i' q := fun q hq => upd_ne hq
              refine ⟨_, j', a', b', 3, B', rfl, hu2, rFm_trans hf2 (rFm_i (by decide)), Or.inl ⟨(hi 102 (by decide)).trans g102, popG G' x', N', popF F' x', none, hto2, z5, Nat.le_trans hN0 (dn_To hto), IV_pop z7, ⟨rWk_i (rWk_pop z8.1 (by omega) (by omega) (by omega)) (fun q h9 => hi q (fun h => by subst h; revert h9; decide)), rLc_pop z8.2 (by omega) (by omega) (by omega) z3 (by simp only [List.length_cons] at hlen ⊢; omega)⟩, rTop_ct hu2 ((hi 105 (by decide)).trans (z9.trans h105)) ((hi 106 (by decide)).trans (z10.trans h106)) htp, hk2, rfl⟩⟩
            · rw [if_neg d] at eT
              rw [decide_eq_false c, decide_eq_false d, Bool.or_self, Bool.and_false, b1_f, if_pos (show nI 0 = (0 : Int32) from rfl)]
              exact fail 3 (by decide) eT
    · intro i' j' a' b' w hne
      rw [if_neg hne]
      exact ⟨3, rfl⟩
/-- while -/
theorem r_whiled {n D : Nat} {i : Nat → Int32} {j : Nat → Int64} {a : Nat → Nat → Int32} {b : Nat → Nat → Int64} {B : RB4} {bd : Nat} {G : GS} {N : LN} {F : List Fr} {g : GB} (hn : 100000 ≤ n) (hR : RunsS bd D g.2.2.2.1) {l : Lv} {R : List Lv} {T T' : Nat} {t u : Tr} {v1 v3 : Int64} (hN : nState N = 1) (hv0 : aInv2 (aOpen G N F (l :: R) (lNew 9 t 1 u 0 .nil))) (hI : IV G N F (l :: R)) (hw : rFull i j a b B bd G N F (l :: R)) (htp : rTop i a b B l) (h102 : i 102 = 0) (h107 : i 107 = nI T') (hTT : T ≤ T') (hT : T' ≤ 10 * lvWaits (l :: R) + 10 * ((l :: R).length + 1) + mapVals (l :: R)) (hv1 : rV a b B t none v1) (hv3 : rV a b B u none v3) (hD : 6 * (151 - (l :: R).length - 1) + (401 - lvWaits (l :: R)) + 1 ≤ D) : PG bd (aOpen G N F (l :: R) (lNew 9 t 1 u 0 .nil)) l R T i j a b B (ZL bd (aOpen G N F (l :: R) (lNew 9 t 1 u 0 .nil)) N l R T b) (m_Model_whiled n g i j a b v1 v3) := by
  have h97 : i 97 = nI (l :: R).length := hw.2.1
  have hlen := hI.2.2.1.2.1
  unfold m_Model_whiled m_Model_hasLevel
  rw [h97, show (150 : Int32) = nI 150 from rfl]
  rcases (by omega : (l :: R).length = 150 ∨ (l :: R).length < 150) with d | d
  · have ea : aOpen G N F (l :: R) (lNew 9 t 1 u 0 .nil) = aFail 6 G N F (l :: R) := by unfold aOpen; rw [if_pos (by omega)]
    rw [ieq_p (by omega), show (6 : Int32) = nI 6 from rfl, r_fails, om_s, om_s, if_pos rfl, ea]
    exact PG_fail (by decide) To_refl (sameL_refl l) hN hI hw.1 (rUp_refl (rWo_B hw.1.1)) rFm_refl kT7_refl
  have ea : aOpen G N F (l :: R) (lNew 9 t 1 u 0 .nil) = (G, N, F, lNew 9 t 1 u 0 .nil :: l :: R, 0, none, none) := by unfold aOpen; rw [if_neg (by omega)]
  rw [ea] at hv0 ⊢
  rw [ieq_n (by omega), om_s, if_neg (by decide)]
  simp only [ob1_s]
  obtain ⟨x, ex⟩ : ∃ x, x = lNew 9 t 1 u 0 .nil := ⟨_, rfl⟩
  rw [← ex] at hv0 ⊢
  have xk : lK x = 9 := by rw [ex]; rfl
  have hi : ∀ q, q ≠ 97 → upd i 97 (i 97 + 1) q = i q := fun q hq => upd_ne hq
  exact while_l (n := n) (N0 := N) (by omega) hR (Nat.le_refl _) htp hTT hD hT (20000 - nDone N) n _ j a b B G N F x rfl (by omega) To_refl hN (iv_of hv0) xk (by rw [ex]; rfl) (by rw [ex]; rfl) (by rw [ex]; rfl) (by rw [ex]; rfl) ⟨rWk_i ⟨hw.1.1, ⟨(fun e => by omega), (fun e => by omega), (fun e => by omega), hw.1.2.1⟩, rAs_push hw.1.2.2.1 (by omega) (by omega), rPd_push hw.1.2.2.2 (by rw [ex]; rfl) (by omega)⟩ (fun q h9 => hi q (fun h => by subst h; revert h9; decide)), rLc_push hw.2 (by omega) (by omega) (by omega) (by rw [ex]; rfl) hlen⟩ (hi 105 (by decide)) (hi 106 (by decide)) ((hi 102 (by decide)).trans h102) ((hi 107 (by decide)).trans h107) hv1 hv3 (rUp_refl (rWo_B hw.1.1)) (rFm_i (by decide)) kT7_refl

