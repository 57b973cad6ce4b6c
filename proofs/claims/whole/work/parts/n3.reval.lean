/-! eval in the reference -/
theorem single_sg {s : Nat} (h : s ≤ 6) : ∀ n, m_Model_isSingle n (nI (sgL s)) = some 1 := by
  intro n
  rcases sg_cases h with h | h | h | h | h | h | h <;> rw [h] <;> rfl
theorem single_no {n c : Nat} (hc : c ≤ 126) (h40 : c ≠ 40) (h41 : c ≠ 41) (hs : ∀ s, s ≤ 6 → c ≠ sgL s) : m_Model_isSingle n (nI c) = some 0 := by
  have ne : ∀ z : Nat, z ≤ 126 → c ≠ z → ¬ nI c = nI z := fun z hz hcz h => hcz (nI_letter hc hz h)
  unfold m_Model_isSingle m_Model_isSign
  rw [if_neg (show ¬ nI c = (43 : Int32) from ne 43 (by decide) (hs 3 (by decide))), if_neg (show ¬ nI c = (45 : Int32) from ne 45 (by decide) (hs 4 (by decide))), if_neg (show ¬ nI c = (42 : Int32) from ne 42 (by decide) (hs 5 (by decide))), if_neg (show ¬ nI c = (47 : Int32) from ne 47 (by decide) (hs 6 (by decide))), if_neg (show ¬ nI c = (61 : Int32) from ne 61 (by decide) (hs 0 (by decide))), if_neg (show ¬ nI c = (60 : Int32) from ne 60 (by decide) (hs 1 (by decide))), if_neg (show ¬ nI c = (62 : Int32) from ne 62 (by decide) (hs 2 (by decide))), ob0_s, if_pos rfl, if_neg (show ¬ nI c = (40 : Int32) from ne 40 (by decide) h40), if_neg (show ¬ nI c = (41 : Int32) from ne 41 (by decide) h41)]
theorem EvalS_of {n k bd : Nat} (hn : 100000 ≤ n) (hE : EvalS bd (k + 3) (mG n (k + 3)).1) (hRun : RunsS bd k (mG n k).2.2.2.1) (hRan : RanS bd k (mG n k).2.2.1) (hRan1 : RanS bd (k + 1) (mG n (k + 1)).2.2.1) (hRan2 : RanS bd (k + 2) (mG n (k + 2)).2.2.1) (hA : At105 (mG n (k + 2)).2.2.1) : EvalS bd (k + 4) (m_Model_eval n (mG n (k + 3))) := by
  intro i j a b B G N F l R T hN hI hw htp h102 h107 hT hne hD
  have hlo := IV_l hI
  have hs4 := wsStr_le hlo
  obtain ⟨s, hsl⟩ : ∃ s, s = wsStr (lWs l) := ⟨_, rfl⟩
  rw [← hsl] at hs4
  rw [show nI (wsStr (lWs l)) = nI s by rw [hsl]]
  have hur := rUp_refl (a := a) (b := b) (rWo_B hw.1.1)
  obtain ⟨x, ⟨x1, x2⟩, x3, x4⟩ := id htp
  obtain ⟨y1, y2, y3, p, y4, y5, y6⟩ := rListAt x3 hlo.2.1 x2
  have hnx := hlo.2.2.1
  have hto0 := To0 (bd := bd) (G := G) (F := F) (l := l) (R := R) (got := none) (rd := none) hN
  have hv0 := iv_meet hI
  have hmade : nMade N ≤ 30000 := hI.2.1.2.2.2.1
  have hF150 : F.length ≤ 150 := by rw [hI.2.2.1.2.2.2.2.1]; exact Nat.le_trans (lvCalls_le _) hI.2.2.1.2.1
  unfold m_Model_eval
  rw [x1, x4, ck_n (by omega), cl_n (by omega), y2]
  rcases Nat.lt_or_ge (lNx l) (tMem (lLst l)).length with c | c
  rotate_left
  · have em : aMeet G N F l R = aFail 4 G N F (l :: R) := by
      unfold aMeet
      rw [List.getElem?_eq_none c]
      dsimp only
      rw [if_neg (fun h => by have := hne h; omega)]
    rw [em] at hto0
    rw [ilt_n (by omega), show (4 : Int32) = nI 4 from rfl, r_fails, om_s]
    exact PG_fail (by decide) hto0 (sameL_refl l) hN hI hw.1 hur rFm_refl kT7_refl
  have eg : (tMem (lLst l))[lNx l]? = some ((tMem (lLst l))[lNx l]'c) := List.getElem?_eq_getElem c
  have hmm := y6 (lNx l) c
  obtain ⟨_, k2, _⟩ := r_kinds n hmm
  rw [ilt_p (by omega), ck_n (by omega), y4, nI_add, ck_n (by omega), cl_n (by omega), ob1_s, ob1_s, ob1_s, k2, ob0_s, show nI (lNx l) + (1 : Int32) = nI (lNx l + 1) from nI_add _ 1]
  generalize (tMem (lLst l))[lNx l]'c = mm at eg hmm k2
  obtain ⟨l1, el1⟩ : ∃ l1, l1 = lSetNx l (lNx l + 1) := ⟨_, rfl⟩
  have em : aMeet G N F l R = if isW mm then aMeetW G N F (l1 :: R) (tLet mm) else (G, N, F, l1 :: R, 1, some mm, none) := by
    unfold aMeet
    rw [eg, el1]
  rw [em] at hto0 hv0
  have hs1 : sameL l l1 := by rw [el1]; exact sameL_nx l _
  have l1w : lWs l1 = lWs l := by rw [el1]; rfl
  have l1n : lNx l1 = lNx l + 1 := by rw [el1]; rfl
  obtain ⟨i1, ei1⟩ : ∃ i1, i1 = upd i 106 (nI (lNx l + 1)) := ⟨_, rfl⟩
  rw [← ei1]
  have hi1 : ∀ q, q ≠ 106 → i1 q = i q := fun q hq => by rw [ei1, upd_ne hq]
  have l1wt : lvWaits (l1 :: R) = lvWaits (l :: R) := by rw [lvW_c, lvW_c, l1w]
  have hw1 : rFull i1 j a b B bd G N F (l1 :: R) := rFull_ws hw hs1 (fun q hq => hi1 q (nm_ne hq (by decide))) (hi1 97 (by decide)) (by rw [hi1 98 (by decide), l1wt]; exact hw.2.2.1) (hi1 116 (by decide)) (hi1 117 (by decide))
  have htp1 : rTop i1 a b B l1 := ⟨x, ⟨(hi1 105 (by decide)).trans x1, x2⟩, by rw [hs1.2.2.2.2.2.1]; exact x3, by rw [ei1, upd_at, l1n]⟩
  have hf1 : rFm i j a b i1 j a b := by rw [ei1]; exact rFm_i (by decide)
  have h1021 : i1 102 = 0 := (hi1 102 (by decide)).trans h102
  have h1071 : i1 107 = nI T := (hi1 107 (by decide)).trans h107
  have hI1 : IV G N F (l1 :: R) := by
    obtain ⟨i1', i2', ⟨i3', i4'⟩, i5'⟩ := id hI
    refine ⟨i1', i2', ⟨fun l' hl' => ?_, ?_⟩, fun h => lvBot_set (i5' h) (fun e => by rw [el1]; exact e)⟩
    · rcases List.mem_cons.mp hl' with e | e
      · rw [e, el1]
        exact ⟨hlo.1, hlo.2.1, c, hlo.2.2.2⟩
      · exact i3' l' (List.mem_cons_of_mem _ e)
    · rw [el1]; exact i4'
  cases hW : isW mm with
  | false =>
    rw [hW, if_neg (by decide)] at hto0 hv0
    rw [b1_f, if_pos (show nI 0 = (0 : Int32) from rfl)]
    exact b580_l hn hE hsl hs4 hD hT hto0 hs1 l1w (by omega) hN hI1 hw1 htp1 h1021 h1071 hmm hur hf1 kT7_refl
  | true =>
  rw [hW, if_pos rfl] at hto0 hv0
  obtain ⟨w, ew, hww⟩ := r_isW_eq hmm hW
  obtain ⟨g1, g2, g3, g4, g5, g6, g7, q, g8, g9, g10⟩ := id hww
  generalize elw : tLet mm = lw at hto0 hv0 hww g4 g5 g6 g7 g9 g10
  have hlp : 0 < lw.length := List.length_pos_iff.mpr g4
  obtain ⟨ch, rest, ecl⟩ : ∃ ch rest, lw = ch :: rest := by
    cases lw with
    | nil => exact absurd rfl g4
    | cons ch rest => exact ⟨ch, rest, rfl⟩
  have hch : ch ≤ 126 := (g6 ch (by rw [ecl]; exact List.mem_cons_self)).2
  have hl1 : a 1 q = nI ch := by
    have := g10 0 hlp
    simp only [ecl] at this
    exact this
  have hhd : lw.head? = some ch := by rw [ecl]; rfl
  have cne : ∀ z : Nat, z ≤ 126 → ch ≠ z → ¬ nI ch = nI z := fun z hz hcz h => hcz (nI_letter hch hz h)
  rw [b1_t, if_neg (show ¬ nI 1 = (0 : Int32) by decide), ew, r_whatW (by omega), ob0_s, ck_n (by omega), cl_n (by omega), g8, ck_n (by omega), cl_n (by omega), ob1_s, hl1, ck_n (by omega), g7]
  have vrl : ∀ r o, VR i1 j a b B bd G N F r o → (∀ G' N' F' v, r = .ok (G', N', F', v) → N' = N) → aMeetW G N F (l1 :: R) lw = eC r G N F (l1 :: R) → PG bd (G, N, F, l :: R, 0, none, none) l R T i j a b B (ZE bd (G, N, F, l :: R, 0, none, none) l R T b (fun l' => lWs l' = lWs l ∧ lNx l < lNx l' ∧ (∀ s, aSign l' = some s → aStrength s ≤ wsStr (lWs l)))) (om o (fun i j a b v => m_Model_eval_b569 n (mG n (k + 3)) i j a b (nI s) v)) := by
    intro r o h1 h2 h3
    rw [h3] at hto0 hv0
    exact vr_then hn hE hsl hs4 hD hT h1 h2 hto0 hv0 hs1 l1w (by omega) hN (Nat.le_refl _) hI1 hw1 htp1 h1021 h1071 hur hf1 kT7_refl
  have fl1 : ∀ e, e ≤ 13 → aMeetW G N F (l1 :: R) lw = aFail e G N F (l1 :: R) → ∀ v, PG bd (G, N, F, l :: R, 0, none, none) l R T i j a b B (ZE bd (G, N, F, l :: R, 0, none, none) l R T b (fun l' => lWs l' = lWs l ∧ lNx l < lNx l' ∧ (∀ s, aSign l' = some s → aStrength s ≤ wsStr (lWs l)))) (some (rFail i1 e, j, a, b, v)) := by
    intro e he h v
    rw [h] at hto0
    exact PG_fail he hto0 hs1 hN hI1 hw1.1 hur hf1 kT7_refl
  -- words that aren't single signs
  have b257 : lw.head? ≠ some 34 → lw.head? ≠ some 58 → lw ≠ [40] → lw ≠ [41] → (∀ s, s ≤ 6 → lw ≠ [sgL s]) → PG bd (G, N, F, l :: R, 0, none, none) l R T i j a b B (ZE bd (G, N, F, l :: R, 0, none, none) l R T b (fun l' => lWs l' = lWs l ∧ lNx l < lNx l' ∧ (∀ s, aSign l' = some s → aStrength s ≤ wsStr (lWs l)))) (m_Model_eval_b257 n (mG n (k + 3)) i1 j a b (nI s) (nI w)) := by
    intro n34 n58 n40 n41 nsg
    have hpm := (rC_at hw1.1.1.1.2.1 hww).2.1
    obtain ⟨a', e1, e2, e3, e4⟩ := r_primitive (n := n) (i := i1) (j := j) (b := b) (by omega) hww hpm
    obtain ⟨hu7, hC7⟩ := rC_7 (rWo_B hw1.1.1) hw1.1.1.1.2.1 e2 e3 hww e4
    have ha7 : ∀ q, q ∉ upA → a' q = a q := fun q hq => e2 q (nm_ne hq (by decide))
    have hw7 : rFull i1 j a' b B bd G N F (l1 :: R) := ⟨⟨rWo_up (m := nMade N) hw1.1.1 hu7 (rB_i hw1.1.1.1.1 rfl rfl rfl rfl) hC7 hw1.1.1.1.2.2 hw1.1.1.2.2.2.2.2.2.2.2.1.2.2 ha7 (fun _ _ => rfl) (fun _ _ => rfl), rRow_up hu7 (l1 :: R) hw1.1.2.1 (fun q _ => by rw [e2 119 (by decide), e2 120 (by decide)]; exact ⟨rfl, rfl⟩) (fun q _ => by rw [e2 121 (by decide)]; exact ⟨rfl, rfl⟩) (fun _ _ => rfl), hw1.1.2.2⟩, hw1.2⟩
    have htp7 : rTop i1 a' b B l1 := rTop_ct hu7 rfl rfl htp1
    have hf7 : rFm i j a b i1 j a' b := rFm_trans hf1 ⟨fun _ _ => rfl, fun _ _ => rfl, fun q hq => e2 q (nm_ne hq (by decide)), fun _ _ => rfl⟩
    have hww7 := rW_up hu7 hww
    have hP := hw7.1.1.2.2.2.2.1
    unfold m_Model_eval_b257
    rw [e1, om_s]
    rcases Classical.em (lw ∈ pW) with hp | hp
    · obtain ⟨q1, q2, q3, q4⟩ := lex_pW hp
      have emW : aMeetW G N F (l1 :: R) lw = aSettleLast G N F (l1 :: R) (1, pCode (aIx lw pW 0), (aKind (pCode (aIx lw pW 0))).length, 0, [], [], .nil) := by
        unfold aMeetW
        dsimp only
        rw [if_neg (by omega), if_neg (by omega), if_neg (by omega), if_pos q2, q3]
      rw [emW] at hto0 hv0
      rw [if_pos hp, if_neg (m1_ne (by omega))]
      unfold m_Model_eval_b281 m_Model_eval_b301 m_Model_eval_b322
      rw [if_neg (m1_ne (by omega)), if_neg (m1_ne (by omega)), r_arT q4, ob0_s, if_neg (m1_ne (by omega))]
      exact met_l hn hE hRun hRan hRan1 hRan2 hA hsl hs4 hD hT (pr := false) hto0 hv0 hs1 l1w (by omega) hN hI1 hw7 htp7 h1021 h1071 (Or.inl ⟨rfl, aIx lw pW 0, q4, rfl, rfl, rfl, rfl, rfl, rfl⟩) hu7 hf7 kT7_refl
    · rw [if_neg hp, if_pos rfl, r_procedureOf (by omega) hww7 hP.1, ob0_s]
      unfold m_Model_eval_b281
      rw [if_pos rfl]
      cases hpf : pFind (gProcs G) lw with
      | none =>
        dsimp only
        rw [if_pos rfl, show (1 : Int32) = nI 1 from rfl, r_fails, om_s]
        have emW : aMeetW G N F (l1 :: R) lw = aFail 1 G N F (l1 :: R) := by
          unfold aMeetW
          dsimp only
          rcases lexC lw with h | h | ⟨h, _⟩ | h | h | ⟨s', h1, h2, h3⟩ | h | h | h
          · exact absurd h n34
          · exact absurd h n58
          · exact absurd h hp
          · exact absurd h n40
          · exact absurd h n41
          · exact absurd h2 (nsg s' h1)
          · rw [h, lexV.2.2.2.2.2.2.2.2.2.1]; rfl
          · rw [h, lexV.2.2.2.2.2.2.2.2.2.2]; rfl
          · rw [h, if_neg (by decide), if_neg (by decide), if_pos rfl, hpf]
        rw [emW] at hto0
        exact PG_fail (by decide) hto0 hs1 hN hI1 hw7.1 hu7 hf7 kT7_refl
      | some kk =>
        dsimp only
        obtain ⟨hkl, hkn⟩ := pFind_at _ _ _ hpf
        obtain ⟨⟨z1, z2, z3⟩, z4, z5, z6, z7⟩ := hP.1.2.2 kk hkl
        have hk40 : kk < 40 := by have := hP.1.2.1; omega
        have hlx : aLex lw = 0 := by rw [← hkn]; exact hP.2 _ (List.getElem_mem hkl)
        have emW : aMeetW G N F (l1 :: R) lw = aSettleLast G N F (l1 :: R) (2, kk, ((gProcs G)[kk]'hkl).2.1.length, 0, [], ((gProcs G)[kk]'hkl).2.1, ((gProcs G)[kk]'hkl).2.2) := by
          unfold aMeetW
          dsimp only
          rw [hlx, if_neg (by decide), if_neg (by decide), if_pos rfl, hpf]
          dsimp only
          rw [List.getElem?_eq_getElem hkl]
        rw [emW] at hto0 hv0
        unfold m_Model_eval_b301 m_Model_eval_b322
        rw [if_neg (m1_ne (by omega)), if_pos rfl, ck_n (by omega), cl_n (by omega), z4, if_pos rfl, ck_n (by omega)]
        refine met_l hn hE hRun hRan hRan1 hRan2 hA hsl hs4 hD hT (pr := true) hto0 hv0 hs1 l1w (by omega) hN hI1 hw7 htp7 h1021 h1071 (Or.inr ⟨rfl, ?_⟩) hu7 hf7 kT7_refl
        refine ⟨fun r => (a' 31 (5 * kk + r)).toNatClampNeg, rfl, rfl, hk40, rfl, rfl, z5, fun r hr => ?_, z7⟩
        obtain ⟨yy, f1, f2⟩ := z6 r hr
        have hyb : yy < 120000 := by have := f2.1; have := f2.2.1; omega
        have ey : (a' 31 (5 * kk + r)).toNatClampNeg = yy := by rw [f1]; exact cl_n (by omega)
        show a' 31 (5 * kk + r) = nI (a' 31 (5 * kk + r)).toNatClampNeg ∧ rW a' B (a' 31 (5 * kk + r)).toNatClampNeg _
        rw [ey]
        exact ⟨f1, f2⟩
  have b98 : ∀ sgl : Int32, (sgl = 1 ∧ lw.length = 1) ∨ (sgl = 0 ∧ lw.length ≠ 1) → PG bd (G, N, F, l :: R, 0, none, none) l R T i j a b B (ZE bd (G, N, F, l :: R, 0, none, none) l R T b (fun l' => lWs l' = lWs l ∧ lNx l < lNx l' ∧ (∀ s, aSign l' = some s → aStrength s ≤ wsStr (lWs l)))) (m_Model_eval_b98 n (mG n (k + 3)) i1 j a b (nI s) (nI w) (nI ch) sgl) := by
    intro sgl hsgl
    unfold m_Model_eval_b98
    rcases Classical.em (ch = 34) with c34 | c34
    · rw [if_pos (by rw [c34]; rfl)]
      have hh : lw.head? = some 34 := by rw [hhd, c34]
      exact vrl _ _ (VR_quote (by omega) hw1.1.1 hmade hww) (fun G' N' F' v e => by
        unfold rQ at e
        split at e
        · cases e; rfl
        · cases e) (by unfold aMeetW; dsimp only; rw [if_pos (lex_34 hh)]; exact eC_Q)
    rw [if_neg (show ¬ nI ch = (34 : Int32) from cne 34 (by decide) c34)]
    rcases Classical.em (ch = 58) with c58 | c58
    · rw [if_pos (by rw [c58]; rfl), ck_n (by omega), ck_n (by omega), cl_n (by omega)]
      have hh : lw.head? = some 58 := by rw [hhd, c58]
      refine vrl _ _ (VR_colon (by omega) hw1.1.1 hF150 hww) (fun G' N' F' v e => ?_) ?_
      · unfold rCo at e
        split at e
        · cases e
        · split at e
          · cases e
          · cases e; rfl
      · unfold aMeetW rCo
        dsimp only
        rw [if_neg (by rw [lex_58 hh]; decide), if_pos (lex_58 hh)]
        split
        · rfl
        · cases aFind F (gGlob G) lw.tail with
          | none => rfl
          | some v => rfl
    rw [if_neg (show ¬ nI ch = (58 : Int32) from cne 58 (by decide) c58)]
    have n34 : lw.head? ≠ some 34 := by rw [hhd]; exact fun h => c34 (Option.some.inj h)
    have n58 : lw.head? ≠ some 58 := by rw [hhd]; exact fun h => c58 (Option.some.inj h)
    rcases hsgl with ⟨e1, e2⟩ | ⟨e1, e2⟩
    · have elw1 : lw = [ch] := by
        rw [ecl] at e2 ⊢
        have : rest = [] := List.length_eq_zero_iff.mp (by simpa using e2)
        rw [this]
      rw [e1, if_neg (by decide)]
      rcases Classical.em (ch = 40) with c40 | c40
      · rw [if_pos (by rw [c40]; rfl), c40]
        have hh : lw = [40] := by rw [elw1, c40]
        have emW : aMeetW G N F (l1 :: R) lw = aSettleLast G N F (l1 :: R) (4, 75, 1, 0, [], [], .nil) := by
          unfold aMeetW; dsimp only; rw [hh, lexV.1]; rfl
        rw [emW] at hto0 hv0
        exact wt_l (pa := true) hn hE hsl hs4 hD hT rfl hto0 hv0 hs1 l1w (by omega) hN hI1 hw1 htp1 h1021 h1071 hur hf1 kT7_refl
      rw [if_neg (show ¬ nI ch = (40 : Int32) from cne 40 (by decide) c40)]
      rcases Classical.em (ch = 45) with c45 | c45
      · rw [if_pos (by rw [c45]; rfl), c45]
        have hh : lw = [45] := by rw [elw1, c45]
        have emW : aMeetW G N F (l1 :: R) lw = aSettleLast G N F (l1 :: R) (1, 25, 1, 4, [], [], .nil) := by
          unfold aMeetW; dsimp only; rw [hh, lexV.2.2.2.2.2.2.1]; rfl
        rw [emW] at hto0 hv0
        exact wt_l (pa := false) hn hE hsl hs4 hD hT rfl hto0 hv0 hs1 l1w (by omega) hN hI1 hw1 htp1 h1021 h1071 hur hf1 kT7_refl
      rw [if_neg (show ¬ nI ch = (45 : Int32) from cne 45 (by decide) c45)]
      unfold m_Model_eval_b238
      rw [if_neg (by decide)]
      rcases Classical.em (ch = 41 ∨ ∃ s', s' ≤ 6 ∧ ch = sgL s') with d | d
      · have hsi : m_Model_isSingle n (nI ch) = some 1 := by
          rcases d with d | ⟨s', d1, d2⟩
          · rw [d]; rfl
          · rw [d2]; exact single_sg d1 n
        rw [hsi, ob0_s, if_neg (by decide), show (4 : Int32) = nI 4 from rfl, r_fails, om_s]
        refine fl1 4 (by decide) ?_ 3
        unfold aMeetW
        dsimp only
        rcases d with d | ⟨s', d1, d2⟩
        · rw [elw1, d, lexV.2.1]; rfl
        · rw [elw1]
          rcases sg_cases d1 with h | h | h | h | h | h | h
          · rw [d2, h]; rfl
          · rw [d2, h]; rfl
          · rw [d2, h]; rfl
          · rw [d2, h]; rfl
          · rw [d2, h] at c45; exact absurd rfl c45
          · rw [d2, h]; rfl
          · rw [d2, h]; rfl
      · rw [single_no hch c40 (fun h => d (Or.inl h)) (fun s' hs' h => d (Or.inr ⟨s', hs', h⟩)), ob0_s, if_pos rfl]
        refine b257 n34 n58 ?_ ?_ ?_
        · rw [elw1]; exact fun h => c40 (List.cons.inj h).1
        · rw [elw1]; exact fun h => d (Or.inl (List.cons.inj h).1)
        · intro s' hs'; rw [elw1]; exact fun h => d (Or.inr ⟨s', hs', (List.cons.inj h).1⟩)
    · rw [e1, if_pos rfl]
      unfold m_Model_eval_b238
      rw [if_pos rfl]
      refine b257 n34 n58 ?_ ?_ ?_
      · intro h; rw [h] at e2; exact e2 rfl
      · intro h; rw [h] at e2; exact e2 rfl
      · intro s' hs' h; rw [h] at e2; exact e2 rfl
  rcases Classical.em (lw.length = 1) with d | d
  · rw [if_pos (by rw [d]; rfl)]
    exact b98 1 (Or.inl ⟨rfl, d⟩)
  · rw [if_neg (show ¬ nI lw.length = (1 : Int32) from fun h => d ((nI_eq (by omega) (by omega)).mp (show nI lw.length = nI 1 from h)))]
    exact b98 0 (Or.inr ⟨rfl, d⟩)
/-- eval, at every depth -/
theorem eval_all {n bd : Nat} (hn : 100000 ≤ n) : ∀ d, EvalS bd d (mG n d).1 := by
  intro d
  induction d using Nat.strongRecOn with
  | _ d ih =>
    have hA : ∀ k, At105 (mG n k).2.2.2.1 := fun k => by
      cases k with
      | zero => intro i j a b v s i' j' a' b' w h; cases h
      | succ k => exact runs_105 n (mG n k)
    have hA2 : ∀ k, At105 (mG n k).2.2.1 := fun k => by
      cases k with
      | zero => intro i j a b v s i' j' a' b' w h; cases h
      | succ k => exact ran_105 (n := n) (hA k)
    have hRun : ∀ k, k ≤ d → RunsS bd k (mG n k).2.2.2.1 := fun k hk => by
      cases k with
      | zero =>
        intro i j a b B G N F l R T v _ hI _ _ _ _ _ _ _ hD
        omega
      | succ k => exact RunsS_of hn (ih k (by omega))
    have hRan : ∀ k, k ≤ d → RanS bd k (mG n k).2.2.1 := fun k hk => by
      cases k with
      | zero =>
        intro i j a b B G N F x l R T v _ hI _ _ _ _ _ _ _ _ _ _ _ hD
        omega
      | succ k => exact RanS_of (n := n) (hRun k (by omega))
    rcases Nat.lt_or_ge d 4 with c | c
    · intro i j a b B G N F l R T hN hI hw htp h102 h107 hT hne hD
      have h1 := hI.2.2.1.2.1
      have h2 := hI.2.2.1.2.2.1
      omega
    · obtain ⟨k, rfl⟩ : ∃ k, d = k + 4 := ⟨d - 4, by omega⟩
      exact EvalS_of hn (ih (k + 3) (by omega)) (hRun k (by omega)) (hRan k (by omega)) (hRan (k + 1) (by omega)) (hRan (k + 2) (by omega)) (hA2 (k + 2))

