/-! every word applied in the reference -/
theorem ap_run {n : Nat} {g g' : GB} {i : Nat → Int32} {j : Nat → Int64} {a : Nat → Nat → Int32} {b : Nat → Nat → Int64} {B : RB4} {p base : Nat} {vs : List Tr} (hn : 100 ≤ n) (hg6 : g.2.2.2.2.2.1 = m_Model_running n g') (hp : p < 74) (h56 : 56 ≤ p) (hl : vs.length = (aKind (pCode p)).length) (hb : base + 5 ≤ 36000) (hv : ∀ k (h : k < vs.length), rV a b B (vs[k]'h) none (b 111 (base + k))) : m_Model_applied n g i j a b (nI p) (nI base) = if rFits (kLs.getD p []) (vs.take (kLs.getD p []).length) = true then m_Model_running n g' i j a b (nI p) (b 111 base) (b 111 (base + 1)) (b 111 (base + 2)) else some (rFail i 3, j, a, b, 3) := by
  have fits := r_fitsA (n := n) (i := i) (j := j) hn hp hl hb hv
  unfold m_Model_applied
  rw [r_kindT hp, ob0_s]
  unfold ct
  rw [if_pos (kLs_le p hp).2, fits]
  split
  · rw [om_s, if_neg (by decide), ck_n (by omega), ob1_s, show nI base + (1 : Int32) = nI (base + 1) from nI_add base 1, ck_n (by omega), ob1_s, cl_n (by omega), cl_n (by omega), if_pos (show (18 : Int32) < nI p from nI_lt (a := 18) (by omega) (by omega)), if_pos (show (31 : Int32) < nI p from nI_lt (a := 31) (by omega) (by omega)), if_pos (show (48 : Int32) < nI p from nI_lt (a := 48) (by omega) (by omega)), if_pos (show (55 : Int32) < nI p from nI_lt (a := 55) (by omega) (by omega)), show nI base + (2 : Int32) = nI (base + 2) from nI_add base 2, ck_n (by omega), cl_n (by omega), hg6, om_id]
  · rw [om_s, if_pos (by decide)]
theorem r_level {n : Nat} {i : Nat → Int32} {j : Nat → Int64} {a : Nat → Nat → Int32} {b : Nat → Nat → Int64} {c : Nat} (h : i 97 = nI c) (hc : c ≤ 150) : m_Model_hasLevel n i j a b = if c = 150 then some (rFail i 6, j, a, b, 0) else some (i, j, a, b, 1) := by
  unfold m_Model_hasLevel
  rw [h, show (150 : Int32) = nI 150 from rfl]
  rcases (by omega : c = 150 ∨ c < 150) with d | d
  · rw [ieq_p (by omega), if_pos d, show (6 : Int32) = nI 6 from rfl, r_fails, om_s]
  · rw [ieq_n (by omega), if_neg (by omega)]
theorem pRunL : ∀ p, p < 74 → pRuns p = true → p = 56 ∨ p = 57 ∨ p = 58 ∨ p = 59 ∨ p = 61 ∨ p = 62 ∨ p = 64 ∨ p = 65 ∨ p = 66 ∨ p = 67 ∨ p = 68 ∨ p = 69 := by decide +kernel
theorem r_applied {n k : Nat} {i : Nat → Int32} {j : Nat → Int64} {a : Nat → Nat → Int32} {b : Nat → Nat → Int64} {B : RB4} {bd : Nat} {G : GS} {N : LN} {F : List Fr} (hn : 100000 ≤ n) (hRun : RunsS bd k (mG n k).2.2.2.1) (hRan : RanS bd k (mG n k).2.2.1) (hRan1 : RanS bd (k + 1) (mG n (k + 1)).2.2.1) {l : Lv} {R : List Lv} {base T' p : Nat} {vs : List Tr} (hN : nState N = 1) (hI : IV G N F (l :: R)) (hv0 : aInv2 (aDo (pCode p) vs G N F (l :: R))) (hw : rFull i j a b B bd G N F (l :: R)) (hs : (gOut G).length + 8001 * (20001 - nDone N) + 8001 < gOb G) (htp : rTop i a b B l) (h102 : i 102 = 0) (h107 : i 107 = nI T') (hbT : base ≤ T') (hTb : T' ≤ base + 10) (hT : tpOk base (l :: R)) (hp : p < 74) (hl : vs.length = (aKind (pCode p)).length) (hv : ∀ k (h : k < vs.length), rV a b B (vs[k]'h) none (b 111 (base + k))) (hD : 6 * (151 - (l :: R).length - 1) + (401 - lvWaits (l :: R)) + 2 ≤ k) : PG bd (aDo (pCode p) vs G N F (l :: R)) l R base i j a b B (ZL bd (aDo (pCode p) vs G N F (l :: R)) N l R base b) (m_Model_applied n (mG n (k + 2)) i j a b (nI p) (nI base)) := by
  have htb := tp_le hT hI
  have h97 : i 97 = nI (l :: R).length := hw.2.1
  have h99 : i 99 = nI F.length := hw.1.1.2.2.1.2.2
  have hlen := hI.2.2.1.2.1
  have hur := rUp_refl (a := a) (b := b) (rWo_B hw.1.1)
  have hlev := r_level (n := n) (j := j) (a := a) (b := b) h97 hlen
  cases hpr : pRuns p with
  | false =>
    obtain ⟨r, e1, e2⟩ := ap_rest (g := mG n (k + 2)) (g' := mG n (k + 1)) hn rfl hw.1.1 hs hI hw.1.2.1 hw.2 hp hpr hl (by omega) hv
    have sd := sd_do hp hpr vs G N F (l :: R)
    rw [e1] at hv0 sd ⊢
    refine PG_pre (PG_vr (c1 := eC r G N F (l :: R)) (T' := T') (ok := fun _ => True) e2 To_refl hv0 (fun e he => by rw [he] at hv0; exact e13 hv0) (fun G' N' F' v he => by rw [he] at sd; have := sd rfl (by simp); exact ⟨this.1.trans hN, this.2⟩) hI hN ?_ h102 hw.1.2.1 hw.1.2.2.1 hw.1.2.2.2 (fun i' G' N' F' v he hq => rAs_G hw.1.2.2.1 (hq 118 (by decide)) (hq 103 (by decide)) (hq 104 (by decide))) hw.2 htp h107 (sameL_refl l) trivial hur rFm_refl (kT7_refl (T := base))) To_refl (sameL_refl l) hur rFm_refl kT7_refl (Nat.le_refl _) ?_
    · match r, e1 with
      | .error e, e1 =>
        have : cDone (aFail e G N F (l :: R)) = nDone N := dn_fail e G N F (l :: R)
        exact Nat.le_of_eq this
      | .ok (G', N', F', v), e1 =>
        have := (sd rfl (by simp)).2
        exact Nat.le_of_eq this
    · intro i' j' a' b' v B' hz
      obtain ⟨G', N', F', got, z1, z2, z3, z4, z5, z6, z7, z8, z9⟩ := hz
      refine ⟨G', N', F', got, z1, z2, ?_, z4, z5, z6, fun q _ => by rw [z8], z9⟩
      have hd0 : nDone N = nDone (eC r G N F (l :: R)).2.1 := by
        match r, e1 with
        | .error e, e1 =>
          have : cDone (aFail e G N F (l :: R)) = nDone N := dn_fail e G N F (l :: R)
          exact this.symm
        | .ok (G2, N2, F2, v2), e1 => exact ((sd rfl (by simp)).2).symm
      rw [hd0]
      exact z3
  | true =>
    have h56 : 56 ≤ p ∧ p ≤ 70 := by have := pRunL p hp hpr; omega
    have pc : pCode p = p + 4 := by unfold pCode; rw [if_neg (by omega), if_pos (by omega)]
    have hge : ∀ k, k < (aKind (pCode p)).length → rV a b B (vs.getD k .nil) none (b 111 (base + k)) := fun k hk => by
      rw [List.getD_eq_getElem?_getD, List.getElem?_eq_getElem (by omega)]
      exact hv k (by omega)
    rw [ap_run (g' := mG n (k + 1)) (by omega) rfl hp h56.1 hl (by omega) hv]
    obtain ⟨x, ex⟩ : ∃ x, x = b 111 base := ⟨_, rfl⟩
    obtain ⟨y, ey⟩ : ∃ y, y = b 111 (base + 1) := ⟨_, rfl⟩
    obtain ⟨z, ez⟩ : ∃ z, z = b 111 (base + 2) := ⟨_, rfl⟩
    have hx : 1 ≤ (aKind (pCode p)).length → rV a b B (vs.getD 0 .nil) none x := fun h0 => by rw [ex]; exact hge 0 (by omega)
    have hy : 2 ≤ (aKind (pCode p)).length → rV a b B (vs.getD 1 .nil) none y := fun h0 => by rw [ey]; exact hge 1 (by omega)
    have hz : 3 ≤ (aKind (pCode p)).length → rV a b B (vs.getD 2 .nil) none z := fun h0 => by rw [ez]; exact hge 2 (by omega)
    rw [← ex, ← ey, ← ez]
    have bad : aDo (pCode p) vs G N F (l :: R) = aFail 3 G N F (l :: R) → PG bd (aDo (pCode p) vs G N F (l :: R)) l R base i j a b B (ZL bd (aDo (pCode p) vs G N F (l :: R)) N l R base b) (some (rFail i 3, j, a, b, 3)) := fun e => by
      rw [e]
      exact PG_fail (by decide) To_refl (sameL_refl l) hN hI hw.1 hur rFm_refl kT7_refl
    have f6 : ∀ c0, c0 = aFail 6 G N F (l :: R) → ∀ v, PG bd c0 l R base i j a b B (ZL bd c0 N l R base b) (some (rFail i 6, j, a, b, v)) := fun c0 e v => by
      rw [e]
      exact PG_fail (by decide) To_refl (sameL_refl l) hN hI hw.1 hur rFm_refl kT7_refl
    have tp : ∀ w : Lv, lWs w = [] → lVals w = [] → tpOk T' (w :: l :: R) := fun w h1 h2 => by
      unfold tpOk at hT ⊢
      rw [lvW_0 h1, mapV_0 h2]
      simp only [List.length_cons] at hT ⊢
      omega
    have hT' : T' ≤ 10 * lvWaits (l :: R) + 10 * ((l :: R).length + 1) + mapVals (l :: R) := by unfold tpOk at hT; omega
    have opn : ∀ (w : Lv) (c0 : Cfg) (v : Int64) (s : Int32), c0 = aOpen G N F (l :: R) w → aInv2 c0 → (lK w = 2 ∨ lK w = 6) → lWs w = [] → lNx w = 0 → lVals w = [] → rV a b B (lLst w) none v → s = b1 (decide (6 ≤ lK w)) → (l :: R).length ≠ 150 → PG bd c0 l R base i j a b B (ZL bd c0 N l R base b) ((mG n (k + 1)).2.2.1 i j a b v s) := by
      intro w c0 v s e1 e2 e3 e4 e5 e6 e7 e8 e9
      have ec : c0 = (G, N, F, w :: l :: R, 0, none, none) := by rw [e1]; unfold aOpen; rw [if_neg (by omega)]
      rw [ec] at e2 ⊢
      exact ran_plain hRan1 hN (iv_of e2) hw htp e3 e4 e5 h102 h107 hbT (tp w e4 e6) e7 e8 (by simp only [List.length_cons] at hD ⊢; omega)
    have fal : ∀ w c0, c0 = aOpen G N F (l :: R) w → (l :: R).length = 150 → c0 = aFail 6 G N F (l :: R) := fun w c0 e1 e2 => by rw [e1]; unfold aOpen; rw [if_pos (by omega)]
    rcases Classical.em (p = 65) with s65 | s65
    · subst s65
      obtain ⟨v, u, rfl⟩ := len2 hl
      have rf : rFits (kLs.getD 65 []) ([v, u].take (kLs.getD 65 []).length) = (isN v && decide (0 ≤ tNum v ∧ tNum v < 8) && (isL u && true)) := rfl
      have af : aFits (aKind (pCode 65)) [v, u] = (isN v && (isL u && true)) := rfl
      rw [rf]
      have ed : aFits (aKind (pCode 65)) [v, u] = true → aDo (pCode 65) [v, u] G N F (l :: R) = if tNum v < 0 ∨ 7 < tNum v then aFail 3 G N F (l :: R) else if 150 ≤ (l :: R).length then aFail 6 G N F (l :: R) else (gSetTold G (tNum v).toNat, N, F, lNew 7 u 1 .nil (gTold G) .nil :: l :: R, 0, none, none) := fun e => by
        unfold aDo
        dsimp only
        rw [if_neg (by rw [e]; decide)]
        rfl
      cases hnv : isN v with
      | false =>
        rw [hnv] at af
        rw [Bool.false_and, Bool.false_and, if_neg (by decide)]
        exact bad (by unfold aDo; dsimp only; rw [if_pos (by rw [af]; rfl)])
      | true =>
        cases hlu : isL u with
        | false =>
          rw [hnv, hlu] at af
          rw [Bool.false_and, Bool.and_false, if_neg (by decide)]
          exact bad (by unfold aDo; dsimp only; rw [if_pos (by rw [af]; rfl)])
        | true =>
          rw [hnv, hlu] at af
          have ed := ed (by rw [af]; rfl)
          rw [Bool.true_and, Bool.and_self, Bool.and_true]
          rcases Classical.em (0 ≤ tNum v ∧ tNum v < 8) with c | c
          · rw [decide_eq_true c, if_pos rfl]
            rw [if_neg (by omega)] at ed
            have hxv : rV a b B v none x := hx (by decide)
            have hyv : rV a b B u none y := hy (by decide)
            unfold m_Model_running
            rw [if_neg (by decide), if_neg (by decide), if_neg (by decide), if_neg (by decide), if_neg (by decide), if_neg (by decide), if_neg (by decide), if_neg (by decide), if_neg (by decide), if_pos (by decide), hlev]
            rcases (by omega : (l :: R).length = 150 ∨ (l :: R).length < 150) with d | d
            · rw [if_pos d, om_s, if_pos rfl]
              exact f6 _ (by rw [ed, if_pos (by omega)]) 3
            · rw [if_neg (by omega), om_s, if_neg (by decide), (numAt hxv hnv).1, ob0_s, om_id]
              rw [if_neg (by omega)] at ed
              rw [ed] at hv0 ⊢
              have := r_asked (n := n) (g := mG n k) (T := base) hRan hN (iv_of hv0) hw htp h102 h107 hbT (tp _ rfl rfl) hyv hD
              rw [show nI (tNum v).toNat = Int32.ofInt (tNum v) by rw [nI_ofInt, Int.toNat_of_nonneg (by omega)]] at this
              exact this
          · rw [decide_eq_false c, if_neg (by decide)]
            exact bad (by rw [ed, if_pos (by omega)])
    rw [(fits_eq (vs := vs) hp ⟨by omega, by omega, by omega, s65⟩ hl).1]
    cases hf : aFits (aKind (pCode p)) vs with
    | false => exact bad (by unfold aDo; dsimp only; rw [if_pos hf])
    | true =>
      have good : aDo (pCode p) vs G N F (l :: R) = aRunning (pCode p) (vs.getD 0 .nil) (vs.getD 1 .nil) (vs.getD 2 .nil) G N F (l :: R) := by
        unfold aDo
        dsimp only
        rw [if_neg (by rw [hf]; decide), if_neg (by omega), if_neg (by omega), if_neg (by omega), if_neg (by omega)]
      rw [if_pos rfl]
      rw [good] at hv0 ⊢
      have F1 : ∀ k c, (aKind (pCode p))[k]? = some c → aFit1 c (vs.getD k .nil) = true := fun k c hk => fitK _ vs k c hf hk
      obtain ⟨v, evv⟩ : ∃ v, v = vs.getD 0 .nil := ⟨_, rfl⟩
      obtain ⟨u, euu⟩ : ∃ v, v = vs.getD 1 .nil := ⟨_, rfl⟩
      obtain ⟨q, eqq⟩ : ∃ v, v = vs.getD 2 .nil := ⟨_, rfl⟩
      rw [← evv] at hx
      rw [← euu] at hy
      rw [← eqq] at hz
      rw [← evv, ← euu, ← eqq] at hv0 ⊢
      have F0 : ∀ c, (aKind (pCode p))[0]? = some c → aFit1 c v = true := fun c hk => by rw [evv]; exact F1 0 c hk
      have F1' : ∀ c, (aKind (pCode p))[1]? = some c → aFit1 c u = true := fun c hk => by rw [euu]; exact F1 1 c hk
      unfold m_Model_running
      rcases pRunL p hp hpr with rfl | rfl | rfl | rfl | rfl | rfl | rfl | rfl | rfl | rfl | rfl | rfl
      · -- run
        rw [if_pos (by decide), hlev]
        have hc : aRunning (pCode 56) v u q G N F (l :: R) = aOpen G N F (l :: R) (lNew 6 v 1 .nil 0 .nil) := rfl
        rcases Classical.em ((l :: R).length = 150) with d | d
        · rw [if_pos d, om_s, if_pos rfl]
          exact f6 _ (fal _ _ hc d) 3
        · rw [if_neg d, om_s, if_neg (by decide), om_id]
          exact opn _ _ _ _ hc hv0 (Or.inr rfl) rfl rfl rfl (hx (by decide)) rfl d
      · -- if
        rw [if_neg (by decide), if_pos (by decide), r_isTrue (by omega) (hx (by decide)) (fitB (F0 98 (by decide))), ob0_s]
        have hc : aRunning (pCode 57) v u q G N F (l :: R) = if tLet v = wTrue then aOpen G N F (l :: R) (lNew 2 u 1 .nil 0 .nil) else (G, N, F, l :: R, 1, none, none) := rfl
        rcases Classical.em (tLet v = wTrue) with c | c
        · rw [if_pos c] at hc
          rw [beq_iff_eq.mpr c, b1_t, if_neg (show ¬ nI 1 = (0 : Int32) by decide), hlev]
          rcases Classical.em ((l :: R).length = 150) with d | d
          · rw [if_pos d, om_s, if_pos rfl]
            exact f6 _ (fal _ _ hc d) 3
          · rw [if_neg d, om_s, if_neg (by decide), om_id]
            exact opn _ _ _ _ hc hv0 (Or.inl rfl) rfl rfl rfl (hy (by decide)) rfl d
        · rw [if_neg c] at hc
          rw [beq_eq_false_iff_ne.mpr c, b1_f, if_pos (show nI 0 = (0 : Int32) from rfl), hc]
          exact ⟨i, j, a, b, 3, B, rfl, hur, rFm_refl, Or.inl ⟨h102, G, N, F, none, To_refl, hN, Nat.le_refl _, hI, hw, htp, kT7_refl, rfl⟩⟩
      · -- ifelse
        rw [if_neg (by decide), if_neg (by decide), if_pos (by decide), hlev]
        have hc : aRunning (pCode 58) v u q G N F (l :: R) = aOpen G N F (l :: R) (lNew 6 (if tLet v = wTrue then u else q) 1 .nil 0 .nil) := rfl
        rcases Classical.em ((l :: R).length = 150) with d | d
        · rw [if_pos d, om_s, if_pos rfl]
          exact f6 _ (fal _ _ hc d) 3
        · rw [if_neg d, om_s, if_neg (by decide), r_isTrue (by omega) (hx (by decide)) (fitB (F0 98 (by decide))), ob0_s]
          rcases Classical.em (tLet v = wTrue) with c | c
          · rw [if_pos c] at hc
            rw [beq_iff_eq.mpr c, b1_t, if_neg (show ¬ nI 1 = (0 : Int32) by decide), om_id]
            exact opn _ _ _ _ hc hv0 (Or.inr rfl) rfl rfl rfl (hy (by decide)) rfl d
          · rw [if_neg c] at hc
            rw [beq_eq_false_iff_ne.mpr c, b1_f, if_pos (show nI 0 = (0 : Int32) from rfl), om_id]
            exact opn _ _ _ _ hc hv0 (Or.inr rfl) rfl rfl rfl (hz (by decide)) rfl d
      · -- repeat
        rw [if_neg (by decide), if_neg (by decide), if_neg (by decide), if_pos (by decide)]
        obtain ⟨n1, n2, n3⟩ := numAt (n := n) (hx (by decide)) (F0 110 (by decide))
        rw [n1, ob0_s, om_id]
        exact r_repeated (n := n) (g := mG n k) hn hRun rfl hN hv0 hI hw htp h102 h107 hbT hT' ⟨n2, n3⟩ (hy (by decide)) (by omega)
      · -- while
        rw [if_neg (by decide), if_neg (by decide), if_neg (by decide), if_neg (by decide), if_neg (by decide), if_pos (by decide), om_id]
        exact r_whiled (n := n) (g := mG n k) hn hRun hN hv0 hI hw htp h102 h107 hbT hT' (hx (by decide)) (hy (by decide)) (by omega)
      · -- foreach
        rw [if_neg (by decide), if_neg (by decide), if_neg (by decide), if_neg (by decide), if_neg (by decide), if_neg (by decide), if_pos (by decide), if_neg (by decide), om_id]
        have hc : aRunning (pCode 62) v u q G N F (l :: R) = if (false = true ∧ 30000 ≤ nMade N) then aFail 8 G N F (l :: R) else if tMem v = [] then (G, (if false then nSetMade N (nMade N + 1) else N), F, l :: R, 1, (if false then some (tL []) else none), none) else if 150 ≤ (l :: R).length then aFail 6 G N F (l :: R) else (G, (if false then nSetMade N (nMade N + 1) else N), F, lNew (if false then 10 else 5) u 1 v 0 .nil :: l :: R, 0, none, none) := by
          rw [if_neg (fun h => by cases h.1)]
          rfl
        exact r_each (n := n) (g := mG n k) (mp := false) hn hRun hc hN hv0 hI hw htp h102 h107 hbT hT' (F0 108 (by decide)) (hx (by decide)) (hy (by decide)) (by omega)
      · -- map
        rw [if_neg (by decide), if_neg (by decide), if_neg (by decide), if_neg (by decide), if_neg (by decide), if_neg (by decide), if_neg (by decide), if_neg (by decide), if_pos (by decide), if_pos (by decide), om_id]
        have hc : aRunning (pCode 64) v u q G N F (l :: R) = if (true = true ∧ 30000 ≤ nMade N) then aFail 8 G N F (l :: R) else if tMem v = [] then (G, (if true then nSetMade N (nMade N + 1) else N), F, l :: R, 1, (if true then some (tL []) else none), none) else if 150 ≤ (l :: R).length then aFail 6 G N F (l :: R) else (G, (if true then nSetMade N (nMade N + 1) else N), F, lNew (if true then 10 else 5) u 1 v 0 .nil :: l :: R, 0, none, none) := by
          show (if 30000 ≤ nMade N then _ else _) = _
          rcases Classical.em (30000 ≤ nMade N) with c | c
          · rw [if_pos c, if_pos ⟨rfl, c⟩]
          · rw [if_neg c, if_neg (show ¬ (true = true ∧ 30000 ≤ nMade N) from fun h => c h.2)]
            rfl
        exact r_each (n := n) (g := mG n k) (mp := true) hn hRun hc hN hv0 hI hw htp h102 h107 hbT hT' (F0 108 (by decide)) (hx (by decide)) (hy (by decide)) (by omega)
      · exact absurd rfl s65
      · -- stop
        rw [if_neg (by decide), if_neg (by decide), if_neg (by decide), if_neg (by decide), if_neg (by decide), if_neg (by decide), if_neg (by decide), if_neg (by decide), if_neg (by decide), if_neg (by decide), if_pos (by decide), ob1_s]
        have hi : ∀ q, q ≠ 102 → upd i 102 4 q = i q := fun q hq => upd_ne hq
        exact ⟨_, j, a, b, 3, B, rfl, hur, rFm_i (by decide), Or.inr (Or.inr ⟨G, N, F, l, 4, 0, .nil, upd_at, ⟨by decide, by decide, by decide, (fun h => by omega), (fun h => by omega)⟩, ⟨(fun h => by omega), (fun h => by omega), (fun h => by omega), (fun h => by omega)⟩, To_refl, sameL_refl l, hN, hI, rWk_i hw.1 (fun q hq => hi q (fun h => by subst h; revert hq; decide)), kT7_refl⟩)⟩
      · -- output
        rw [if_neg (by decide), if_neg (by decide), if_neg (by decide), if_neg (by decide), if_neg (by decide), if_neg (by decide), if_neg (by decide), if_neg (by decide), if_neg (by decide), if_neg (by decide), if_neg (by decide), if_pos (by decide), h99]
        have hFl : F.length = lvCalls (l :: R) := hI.2.2.1.2.2.2.2.1
        have hFc := lvCalls_le (l :: R)
        have hc : aRunning (pCode 67) v u q G N F (l :: R) = aOutput v G N F (l :: R) := rfl
        rcases Nat.eq_zero_or_pos F.length with c | c
        · rw [if_pos (by rw [c]; rfl), show (12 : Int32) = nI 12 from rfl, r_fails, om_s, hc]
          have : aOutput v G N F (l :: R) = aFail 12 G N F (l :: R) := by
            unfold aOutput
            rw [(lvAt_calls (l :: R)).mpr (by omega)]
          rw [this]
          exact PG_fail (by decide) To_refl (sameL_refl l) hN hI hw.1 hur rFm_refl kT7_refl
        · rw [if_neg (fun h => by have := (nI_eq (by omega) (by omega)).mp (show nI F.length = nI 0 from h); omega), ob1_s, ob1_s]
          have hi : ∀ q, q ≠ 102 → upd i 102 5 q = i q := fun q hq => upd_ne hq
          exact ⟨_, _, a, b, 3, B, rfl, hur, ⟨fun q hq => hi q (nm_ne hq (by decide)), fun q hq => updL_ne (nm_ne hq (by decide)), fun _ _ => rfl, fun _ _ => rfl⟩, Or.inr (Or.inr ⟨G, N, F, l, 5, 0, v, upd_at, ⟨by decide, by decide, by decide, (fun h => by omega), fun _ h => by have := (lvAt_calls (l :: R)).mp h; omega⟩, ⟨(fun h => by omega), (fun h => by omega), fun _ => by rw [updL_at]; exact hx (by decide), (fun h => by omega)⟩, To_refl, sameL_refl l, hN, hI, rWk_i ⟨rWo_j hw.1.1 (updL_ne (by decide)) (updL_ne (by decide)) (updL_ne (by decide)) (updL_ne (by decide)), hw.1.2⟩ (fun q hq => hi q (fun h => by subst h; revert hq; decide)), kT7_refl⟩)⟩
      · -- catch
        rw [if_neg (by decide), if_neg (by decide), if_neg (by decide), if_neg (by decide), if_neg (by decide), if_neg (by decide), if_neg (by decide), if_neg (by decide), if_neg (by decide), if_neg (by decide), if_neg (by decide), if_neg (by decide), if_pos (by decide), hlev]
        have hc : aRunning (pCode 68) v u q G N F (l :: R) = aOpen G N F (l :: R) (lNew 8 u 1 .nil 0 v) := rfl
        rcases Classical.em ((l :: R).length = 150) with d | d
        · rw [if_pos d, om_s, if_pos rfl]
          exact f6 _ (fal _ _ hc d) 3
        · rw [if_neg d, om_s, if_neg (by decide), om_id]
          have ec : aRunning (pCode 68) v u q G N F (l :: R) = (G, N, F, lNew 8 u 1 .nil 0 v :: l :: R, 0, none, none) := by rw [hc]; unfold aOpen; rw [if_neg (by omega)]
          rw [ec] at hv0 ⊢
          exact r_caught (n := n) (g := mG n k) (by omega) hRan hN (iv_of hv0) hw htp h102 h107 hbT (tp _ rfl rfl) (hy (by decide)) (hx (by decide)) (F0 119 (by decide)) hD
      · -- throw
        rw [if_neg (by decide), if_neg (by decide), if_neg (by decide), if_neg (by decide), if_neg (by decide), if_neg (by decide), if_neg (by decide), if_neg (by decide), if_neg (by decide), if_neg (by decide), if_neg (by decide), if_neg (by decide), if_neg (by decide), if_pos (by decide), om_id]
        have hc : aRunning (pCode 69) v u q G N F (l :: R) = aThrow (tLet v) G N F (l :: R) := rfl
        obtain ⟨tg, t1, t2⟩ := tag_lem (tLet v) (l :: R) hw.1.2.1 hI.2.2.1.1
        have hb8 := lvCn_le k8 (l :: R)
        unfold m_Model_throwing
        rcases throw_b (n := n) (j := j) (i := i) (by omega) hw.1.2.2.1.1 (by omega) (hx (by decide)) (F0 119 (by decide)) t1 (lvCn k8 (l :: R)) 0 n (by omega) (by omega) with ⟨g1, g2⟩ | ⟨⟨s, g0, g1⟩, g2⟩
        · rw [show (0 : Int32) = nI 0 from rfl, g2, hc]
          have : aThrow (tLet v) G N F (l :: R) = aFail 11 G N F (l :: R) := by
            unfold aThrow
            rw [t2.mpr (fun s hs9 => g1 s (Nat.zero_le _) hs9)]
          rw [this]
          exact PG_fail (by decide) To_refl (sameL_refl l) hN hI hw.1 hur rFm_refl kT7_refl
        · rw [show (0 : Int32) = nI 0 from rfl, g2]
          have hi : ∀ q, q ≠ 102 → upd i 102 3 q = i q := fun q hq => upd_ne hq
          exact ⟨_, _, a, b, 3, B, rfl, hur, ⟨fun q hq => hi q (nm_ne hq (by decide)), fun q hq => updL_ne (nm_ne hq (by decide)), fun _ _ => rfl, fun _ _ => rfl⟩, Or.inr (Or.inr ⟨G, N, F, l, 3, 0, v, upd_at, ⟨by decide, by decide, by decide, fun _ h => t2.mp h s g0 g1, (fun h => by omega)⟩, ⟨(fun h => by omega), fun _ => ⟨F0 119 (by decide), by rw [updL_at]; exact hx (by decide)⟩, (fun h => by omega), (fun h => by omega)⟩, To_refl, sameL_refl l, hN, hI, rWk_i ⟨rWo_j hw.1.1 (updL_ne (by decide)) (updL_ne (by decide)) (updL_ne (by decide)) (updL_ne (by decide)), hw.1.2⟩ (fun q hq => hi q (fun h => by subst h; revert hq; decide)), kT7_refl⟩)⟩

