/-! catch in the reference -/
theorem rWo_ab {i : Nat → Int32} {j : Nat → Int64} {a : Nat → Nat → Int32} {b : Nat → Nat → Int64} {a' : Nat → Nat → Int32} {b' : Nat → Nat → Int64} {B : RB4} {bd : Nat} {G : GS} {N : LN} {F : List Fr} (h : rWo i j a b B bd G N F) (ha : ∀ q, q ∉ [119, 120, 121] → a' q = a q) (hb : ∀ q, q ∉ [111, 122, 123] → b' q = b q) : rUp a b B a' b' B ∧ rWo i j a' b' B bd G N F := by
  obtain ⟨⟨w1, w2, w3⟩, w4, ⟨w5, w6, w7⟩, w8, ⟨w9, w10⟩, w11, ⟨w12, w13⟩, w14, w15, w18, w19⟩ := id h
  have hs : rSame a a' b b' := ⟨ha 1 (by decide), ha 3 (by decide), ha 4 (by decide), ha 12 (by decide), ha 13 (by decide), ha 14 (by decide), hb 10 (by decide)⟩
  have hu := rUp_same hs (rWo_B h)
  exact ⟨hu, ⟨w1, rC_same hs (ha 7 (by decide)) (hb 9 (by decide)) (rWo_B h) w2, w3⟩, rTr_up hu w4 rfl rfl, ⟨rFr_up hu F (fun x _ => by rw [ha 113 (by decide)]) (fun x _ => by rw [ha 114 (by decide), hb 115 (by decide)]; exact ⟨rfl, rfl⟩) w5, rCp_up (ha 112 (by decide)) F w6, w7⟩, rGl_up hu rfl (fun m _ => by rw [ha 34 (by decide), hb 35 (by decide)]; exact ⟨rfl, rfl⟩) w8, ⟨rPr_up hu rfl (fun m _ => by rw [ha 29 (by decide), ha 30 (by decide), hb 32 (by decide)]; exact ⟨rfl, rfl, rfl⟩) (fun m _ => by rw [ha 31 (by decide)]) w9, w10⟩, rTu_up w11 (fun q h1 h2 => ha q (by simp; omega)) rfl, ⟨rOut_up w12 rfl (ha 45 (by decide)), w13⟩, w14, w15, w18, w19⟩
theorem dn_To {bd : Nat} {c c' : Cfg} (h : To bd c c') : cDone c ≤ cDone c' := by
  obtain ⟨k, rfl⟩ := h
  induction k generalizing c with
  | zero => exact Nat.le_refl _
  | succ k ih =>
    refine Nat.le_trans ?_ (ih (c := aStep bd c))
    unfold aStep
    split
    · exact Nat.le_refl _
    split
    · rw [dn_micro]; exact Nat.le_refl _
    split
    · exact Nat.le_refl _
    split
    · exact Nat.le_refl _
    · rw [dn_apply]; omega
theorem svl_at {b : Nat → Nat → Int64} {k s : Nat} {v : Int64} : svl b k s v k s = v := by
  show updB b k (vp_updL (b k) s v) k s = v
  unfold updB
  rw [if_pos rfl, updL_at]
theorem svl_ne {b : Nat → Nat → Int64} {k s q : Nat} {v : Int64} (h : q ≠ s) : svl b k s v k q = b k q := by
  show updB b k (vp_updL (b k) s v) k q = b k q
  unfold updB
  rw [if_pos rfl, updL_ne h]
theorem tx14 : isTx 14 wError := ⟨by decide, by decide, by decide, by decide, by decide +kernel⟩
theorem rWk_pop8 {i : Nat → Int32} {j : Nat → Int64} {a : Nat → Nat → Int32} {b : Nat → Nat → Int64} {B : RB4} {bd : Nat} {G : GS} {N : LN} {F : List Fr} {x : Lv} {L : List Lv} (h : rWk i j a b B bd G N F (x :: L)) (h8 : lK x = 8) (hL : L.length ≤ 150) : rWk (upd i 118 (i 118 - 1)) j a b B bd (popG G x) N (popF F x) L := by
  obtain ⟨c1, c2⟩ := lvCn_8 (L := L) h8
  obtain ⟨w, r, ⟨a1, a2, a3⟩, hpd⟩ := h
  rw [popG_7 (by omega), popF_1 (by omega)]
  rw [c1] at a1
  rw [c2] at a2 a3
  rw [lvTold, if_neg (by omega)] at a3
  have hb := lvCn_le k8 L
  refine ⟨rWo_i w (fun q hq => upd_ne (fun h => by subst h; revert hq; decide)), r.2.2.2, ⟨?_, (upd_ne (by decide)).trans a2, fun hp => (upd_ne (by decide)).trans (a3 hp)⟩, rPd_pop hpd⟩
  rw [upd_at, a1, rI_pred (by omega) (by omega)]
  rfl
def bk8 : List Nat := [102, 98, 97, 99, 116, 117, 107, 105, 106]
theorem b164_y {n : Nat} {g : GB} {i : Nat → Int32} {j : Nat → Int64} {a : Nat → Nat → Int32} {b : Nat → Nat → Int64} {v5 v6 v7 v8 v9 v10 v11 v12 : Int32} {v13 : Int64} : ∃ i3, m_Model_caught_b164 n g i j a b v5 v6 v7 v8 v9 v10 v11 v12 v13 1 = some (i3, j, a, b, 3) ∧ i3 102 = 0 ∧ i3 98 = v5 ∧ i3 97 = v6 ∧ i3 99 = v7 ∧ i3 116 = v8 ∧ i3 117 = v9 ∧ i3 107 = v10 ∧ i3 105 = v11 ∧ i3 106 = v12 ∧ ∀ q, q ∉ bk8 → i3 q = i q := by
  unfold m_Model_caught_b164
  rw [if_neg (by decide)]
  simp only [ob1_s]
  refine ⟨_, rfl, ?_, ?_, ?_, ?_, ?_, ?_, ?_, ?_, ?_, fun q hq => ?_⟩
  · rw [upd_ne (by decide), upd_ne (by decide), upd_ne (by decide), upd_ne (by decide), upd_ne (by decide), upd_ne (by decide), upd_ne (by decide), upd_ne (by decide), upd_at]
  · rw [upd_ne (by decide), upd_ne (by decide), upd_ne (by decide), upd_ne (by decide), upd_ne (by decide), upd_ne (by decide), upd_ne (by decide), upd_at]
  · rw [upd_ne (by decide), upd_ne (by decide), upd_ne (by decide), upd_ne (by decide), upd_ne (by decide), upd_ne (by decide), upd_at]
  · rw [upd_ne (by decide), upd_ne (by decide), upd_ne (by decide), upd_ne (by decide), upd_ne (by decide), upd_at]
  · rw [upd_ne (by decide), upd_ne (by decide), upd_ne (by decide), upd_ne (by decide), upd_at]
  · rw [upd_ne (by decide), upd_ne (by decide), upd_ne (by decide), upd_at]
  · rw [upd_ne (by decide), upd_ne (by decide), upd_at]
  · rw [upd_ne (by decide), upd_at]
  · rw [upd_at]
  · rw [upd_ne (nm_ne hq (by decide)), upd_ne (nm_ne hq (by decide)), upd_ne (nm_ne hq (by decide)), upd_ne (nm_ne hq (by decide)), upd_ne (nm_ne hq (by decide)), upd_ne (nm_ne hq (by decide)), upd_ne (nm_ne hq (by decide)), upd_ne (nm_ne hq (by decide)), upd_ne (nm_ne hq (by decide))]
theorem b164_n {n : Nat} {g : GB} {i : Nat → Int32} {j : Nat → Int64} {a : Nat → Nat → Int32} {b : Nat → Nat → Int64} {v5 v6 v7 v8 v9 v10 v11 v12 : Int32} {v13 : Int64} : m_Model_caught_b164 n g i j a b v5 v6 v7 v8 v9 v10 v11 v12 v13 0 = some (i, j, a, b, v13) := by
  unfold m_Model_caught_b164
  rw [if_pos rfl]
theorem IV_caught {G : GS} {N : LN} {F : List Fr} {L : List Lv} {e : Nat} (h : IV G N F L) (he : e ≤ 13) : IV G (nSetCaught N e) F L := ⟨h.1, ⟨h.2.1.1, h.2.1.2.1, h.2.1.2.2.1, h.2.1.2.2.2.1, he⟩, h.2.2.1, h.2.2.2⟩
/-- catch -/
theorem r_caught {n D : Nat} {i : Nat → Int32} {j : Nat → Int64} {a : Nat → Nat → Int32} {b : Nat → Nat → Int64} {B : RB4} {bd : Nat} {G : GS} {N : LN} {F : List Fr} {g : GB} (hn : 1000 ≤ n) (hR : RanS bd D g.2.2.1) {l : Lv} {R : List Lv} {T T' : Nat} {u tg : Tr} {v vt : Int64} (hN : nState N = 1) (hI : IV G N F (lNew 8 u 1 .nil 0 tg :: l :: R)) (hw : rFull i j a b B bd G N F (l :: R)) (htp : rTop i a b B l) (h102 : i 102 = 0) (h107 : i 107 = nI T') (hTT : T ≤ T') (hT : tpOk T' (lNew 8 u 1 .nil 0 tg :: l :: R)) (hv : rV a b B u none v) (hvt : rV a b B tg none vt) (htw : isW tg = true) (hD : 6 * (151 - (l :: R).length - 1) + (401 - lvWaits (l :: R)) + 2 ≤ D) : PG bd (G, N, F, lNew 8 u 1 .nil 0 tg :: l :: R, 0, none, none) l R T i j a b B (ZL bd (G, N, F, lNew 8 u 1 .nil 0 tg :: l :: R, 0, none, none) N l R T b) (m_Model_caught n g i j a b vt v) := by
  obtain ⟨x, ex⟩ : ∃ x, x = lNew 8 u 1 .nil 0 tg := ⟨_, rfl⟩
  rw [← ex] at hI hT ⊢
  have xk : lK x = 8 := by rw [ex]; rfl
  have xt : lTag x = tg := by rw [ex]; rfl
  have xw : lWs x = [] := by rw [ex]; rfl
  have xn : lNx x = 0 := by rw [ex]; rfl
  have xl : lLst x = u := by rw [ex]; rfl
  have hL : (l :: R).length ≤ 150 := by have := hI.2.2.1.2.1; simp only [List.length_cons] at this ⊢; omega
  obtain ⟨c1, c2⟩ := lvCn_8 (L := l :: R) xk
  obtain ⟨a1, a2, a3⟩ := hw.1.2.2.1
  have hb8 := lvCn_le k8 (l :: R)
  have hFl : F.length = lvCalls (l :: R) := by
    have := hI.2.2.1.2.2.2.2.1
    rw [lvCalls, if_neg (by omega), Nat.zero_add] at this
    exact this
  have h99 : i 99 = nI F.length := hw.1.1.2.2.1.2.2
  unfold m_Model_caught
  simp only [ob1_s]
  rw [a1, ck_n (by omega), cl_n (by omega), show nI (lvCn k8 (l :: R)) + (1 : Int32) = nI (lvCn k8 (l :: R) + 1) from nI_add _ 1]
  obtain ⟨i2, e2⟩ : ∃ i2, i2 = upd i 118 (nI (lvCn k8 (l :: R) + 1)) := ⟨_, rfl⟩
  obtain ⟨b2, f2⟩ : ∃ b2, b2 = svl b 123 (lvCn k8 (l :: R)) vt := ⟨_, rfl⟩
  rw [← e2, ← f2]
  have q2 : ∀ q, q ≠ 118 → i2 q = i q := fun q hq => by rw [e2, upd_ne hq]
  have hb2 : ∀ q, q ≠ 123 → b2 q = b q := fun q hq => by rw [f2]; exact updB_ne hq
  have h123 : b2 123 (lvCn k8 (l :: R)) = vt := by rw [f2]; exact svl_at
  have h123n : ∀ k, k ≠ lvCn k8 (l :: R) → b2 123 k = b 123 k := fun k hk => by rw [f2]; exact svl_ne hk
  obtain ⟨hu2, hw2⟩ := rWo_ab (a' := a) (b' := b2) hw.1.1 (fun _ _ => rfl) (fun q hq => hb2 q (nm_ne hq (by decide)))
  have hrow : rRow a b2 B (x :: l :: R) := ⟨(fun h => by omega), (fun h => by omega), fun _ => by rw [h123, xt]; exact (rV_up hu2 _).1 _ hvt, rRow_up hu2 (l :: R) hw.1.2.1 (fun _ _ => ⟨rfl, rfl⟩) (fun k _ => ⟨rfl, by rw [hb2 122 (by decide)]⟩) (fun k hk => h123n k (by omega))⟩
  have hwk : rWk i2 j a b2 B bd G N F (x :: l :: R) := ⟨rWo_i hw2 (fun q hq => q2 q (fun h => by subst h; revert hq; decide)), hrow, ⟨by rw [e2, upd_at, c1], by rw [q2 103 (by decide), c2]; exact a2, fun hp => by rw [c2] at hp; rw [q2 104 (by decide), lvTold, if_neg (by omega)]; exact a3 hp⟩, rPd_push hw.1.2.2.2 (by rw [ex]; rfl) (by omega)⟩
  have hl2 : rLc i2 (l :: R) := rLc_i hw.2 (q2 97 (by decide)) (q2 98 (by decide)) (q2 116 (by decide)) (q2 117 (by decide))
  have hf2 : rFm i j a b i2 j a b2 := ⟨fun q hq => q2 q (nm_ne hq (by decide)), fun _ _ => rfl, fun _ _ => rfl, fun q hq => hb2 q (nm_ne hq (by decide))⟩
  have hk2 : kT7 b b2 T' := fun k _ => by rw [hb2 111 (by decide)]
  obtain ⟨i', j', a', b', w, B', e1, gu, gf, e4⟩ := hR i2 j a b2 B G N F x l R T' v hN hI hwk hl2 (by omega) (by omega) (by omega) xw xn ((q2 102 (by decide)).trans h102) ((q2 107 (by decide)).trans h107) hT (by rw [xl]; exact (rV_up hu2 _).1 _ hv) (by simp only [List.length_cons] at hD ⊢; omega)
  rw [show decide (6 ≤ lK x) = true by rw [xk]; rfl, b1_t] at e1
  rw [show (1 : Int32) = nI 1 from rfl, e1, om_s]
  have gf0 : rFm i j a b i' j' a' b' := rFm_trans hf2 gf
  have gu0 := rUp_trans hu2 gu
  obtain ⟨y, ey, hy⟩ := r_isW_eq hvt htw
  have hy' : rW a' B' y (tLet tg) := rW_up gu0 hy
  have hyb : y < 120000 := by have := hy'.1; have := hy'.2.1; omega
  rcases e4 with ⟨e4, G', N', F', x', got, z1, z2, z3, z4, z5, z6, z7, z8, z8', z9, z10, z11, z12, z13⟩ | e4 | e4
  · have hi : ∀ q, q ≠ 118 → upd i' 118 (i' 118 - nI 1) q = i' q := fun q hq => upd_ne hq
    have h2 : upd i' 118 (i' 118 - nI 1) 102 = 0 := (hi 102 (by decide)).trans e4
    unfold m_Model_caught_b128 m_Model_caught_b129
    rw [if_neg (show ¬ i' 102 = nI 1 by rw [e4]; decide), h2, if_neg (by decide), if_neg (by decide), b164_n]
    refine ⟨_, j', a', b', w, B', rfl, gu0, rFm_trans gf0 (rFm_i (by decide)), Or.inl ⟨h2, popG G' x', N', popF F' x', got, ?_, z5, z6, IV_pop z7, ⟨rWk_pop8 z8 (z2.1.trans xk) hL, rLc_i z8' (hi 97 (by decide)) (hi 98 (by decide)) (hi 116 (by decide)) (hi 117 (by decide))⟩, rTop_ct gu0 ((hi 105 (by decide)).trans (z9.trans (q2 105 (by decide)))) ((hi 106 (by decide)).trans (z10.trans (q2 106 (by decide)))) htp, kT7_trans (fun k hk => hk2 k (by omega)) z12 hTT, z13⟩⟩
    have ed : aDone G' N' F' x' (l :: R) got = aLeave 1 G' N' F' (x' :: l :: R) got := by
      unfold aDone
      have := z2.1
      rw [if_neg (by omega), if_neg (by omega), if_neg (by omega), if_neg (by omega), if_neg (by omega), if_neg (by omega)]
    rw [← leave1, ← ed]
    exact To_trans z1 (To2 z5)
  · obtain ⟨c', g1, g2⟩ := e4
    rw [if_pos (show i' 102 = nI 1 from g1)]
    exact ⟨i', j', a', b', _, B', rfl, gu0, gf0, Or.inr (Or.inl ⟨c', g1, g2⟩)⟩
  · rw [if_neg (show ¬ i' 102 = nI 1 from (pLv_102 e4).2)]
    obtain ⟨G', N', F', x', lv, e, t, g1, g2, ⟨s1, s2, s3, s4⟩, g4, g5, g6, g7, g8, g9⟩ := e4
    have xk' : lK x' = 8 := g5.1.trans xk
    have xt' : lTag x' = tg := g5.2.1.trans xt
    obtain ⟨i3, e3⟩ : ∃ i3, i3 = upd i' 118 (i' 118 - nI 1) := ⟨_, rfl⟩
    rw [← e3]
    have hi : ∀ q, q ≠ 118 → i3 q = i' q := fun q hq => by rw [e3]; exact upd_ne hq
    have hp : rWk i3 j' a' b' B' bd (popG G' x') N' (popF F' x') (l :: R) := by rw [e3]; exact rWk_pop8 g8 xk' hL
    have h3 : i3 102 = nI lv := (hi 102 (by decide)).trans g1
    have hlv := g2.1
    have hlv6 := g2.2.1
    have hk9 : kT7 b b' T := kT7_trans (fun k hk => hk2 k (by omega)) g9 hTT
    have hFe : popF F' x' = F' := popF_1 (by omega)
    have hF' : F'.length = F.length := by
      have := g7.2.2.1.2.2.2.2.1
      rw [lvCalls, if_neg (by omega), Nat.zero_add] at this
      omega
    have gf3 : rFm i j a b i3 j' a' b' := rFm_trans gf0 (by rw [e3]; exact rFm_i (by decide))
    have pass : lvNo lv t x' → ∀ w, PG bd (G, N, F, x :: l :: R, 0, none, none) l R T i j a b B (ZL bd (G, N, F, x :: l :: R, 0, none, none) N l R T b) (some (i3, j', a', b', w)) := by
      intro hno w
      obtain ⟨p1, p2⟩ := aLV_pop (g := G') (n := N') (F := F') g2 hno
      rw [p1] at g4
      exact ⟨i3, j', a', b', w, B', rfl, gu0, gf3, Or.inr (Or.inr ⟨popG G' x', N', popF F' x', l, lv, e, t, h3, p2, ⟨fun h => (hi 126 (by decide)).trans (s1 h), s2, s3, fun h => (hi 126 (by decide)).trans (s4 h)⟩, g4, sameL_refl l, g6, IV_pop g7, hp, hk9⟩)⟩
    have caught : ∀ (i4 : Nat → Int32) (m : Nat), (∀ q, q ≠ 95 → i4 q = i3 q) → i4 95 = nI m → m ≤ 13 → To bd (G, N, F, x :: l :: R, 0, none, none) (popG G' x', nSetCaught N' m, popF F' x', l :: R, 1, none, none) → rFm i j a b i4 j' a' b' → ∀ v13, PG bd (G, N, F, x :: l :: R, 0, none, none) l R T i j a b B (ZL bd (G, N, F, x :: l :: R, 0, none, none) N l R T b) (m_Model_caught_b164 n g i4 j' a' b' (i 98) (i 97) (i 99) (i 116) (i 117) (i 107) (i 105) (i 106) v13 1) := by
      intro i4 m h4 h95 hm hto hf4 v13
      obtain ⟨i5, k0, k1, k2, k3, k4, k5, k6, k7, k8', k9, k10⟩ := b164_y (n := n) (g := g) (i := i4) (j := j') (a := a') (b := b') (v5 := i 98) (v6 := i 97) (v7 := i 99) (v8 := i 116) (v9 := i 117) (v10 := i 107) (v11 := i 105) (v12 := i 106) (v13 := v13)
      rw [k0]
      have hq : ∀ q, q ∉ bk8 → q ≠ 95 → i5 q = i3 q := fun q h1 h2 => (k10 q h1).trans (h4 q h2)
      refine ⟨i5, j', a', b', 3, B', rfl, gu0, rFm_trans hf4 ⟨fun q hq => k10 q (fun hm => hq ((show ∀ q ∈ bk8, q ∈ chI by decide) q hm)), fun _ _ => rfl, fun _ _ => rfl, fun _ _ => rfl⟩, Or.inl ⟨k1, popG G' x', nSetCaught N' m, popF F' x', none, hto, g6, ?_, IV_caught (IV_pop g7) hm, ⟨⟨?_, hp.2.1, rAs_i hp.2.2.1 (hq 118 (by decide) (by decide)) (hq 103 (by decide) (by decide)) (hq 104 (by decide) (by decide)), hp.2.2.2⟩, rLc_i hw.2 k3 k2 k5 k6⟩, rTop_ct gu0 k8' k9 htp, hk9, rfl⟩⟩
      · exact dn_To hto
      · obtain ⟨⟨w1, w2, w3⟩, w4, ⟨w5, w6, w7⟩, w8, ⟨w9, w10⟩, w11, ⟨w12, w13⟩, w14, ⟨w15, w16, w17⟩, w18, w19⟩ := id hp.1
        have hur := rUp_refl (a := a') (b := b') (rWo_B hp.1)
        exact ⟨⟨rB_i w1 (hq 18 (by decide) (by decide)) (hq 19 (by decide) (by decide)) (hq 20 (by decide) (by decide)) (hq 21 (by decide) (by decide)), w2, w3⟩, w4, ⟨w5, w6, by rw [k4, h99, hFe, hF']⟩, rGl_up hur (hq 36 (by decide) (by decide)) (fun _ _ => ⟨rfl, rfl⟩) w8, ⟨rPr_up hur (hq 33 (by decide) (by decide)) (fun _ _ => ⟨rfl, rfl, rfl⟩) (fun _ _ => rfl) w9, w10⟩, rTu_up w11 (fun _ _ _ => rfl) (hq 47 (by decide) (by decide)), ⟨w12, w13⟩, (hq 46 (by decide) (by decide)).trans w14, ⟨(hq 93 (by decide) (by decide)).trans w15, (k10 95 (by decide)).trans h95, (hq 96 (by decide) (by decide)).trans w17⟩, w18, w19⟩
    have txt := r_isText (n := n) (i := i3) (j := j') (b := b') (by omega) hy' tx14
    have b129 : ∀ s0 v13, lv ≠ 2 → m_Model_caught_b129 n g i3 j' a' b' vt (i 98) (i 97) (i 99) (i 116) (i 117) (i 107) (i 105) (i 106) v13 s0 = m_Model_caught_b164 n g i3 j' a' b' (i 98) (i 97) (i 99) (i 116) (i 117) (i 107) (i 105) (i 106) v13 s0 := by
      intro s0 v13 hne
      unfold m_Model_caught_b129
      rw [h3, if_neg (fun h => by have := (nI_eq (by omega) (by omega)).mp (show nI lv = nI 2 from h); omega)]
    unfold m_Model_caught_b128
    rcases (by omega : lv = 3 ∨ lv = 2 ∨ (lv ≠ 2 ∧ lv ≠ 3)) with c | c | ⟨c, c'⟩
    · subst c
      obtain ⟨t1, t2⟩ := s2 rfl
      obtain ⟨z, ez, hz⟩ := r_isW_eq t2 t1
      have hzb : z < 120000 := by have := hz.1; have := hz.2.1; omega
      rw [h3, if_pos (show nI 3 = (3 : Int32) from rfl), ez, r_whatW (by omega), ob0_s, ey, r_whatW (by omega), ob0_s, r_sameWord (by omega) hz hy', ob0_s]
      rw [← ey]
      rcases Classical.em (tLet t = tLet tg) with d | d
      · rw [decide_eq_true d, b1_t, if_neg (show ¬ nI 1 = (0 : Int32) by decide), b129 _ _ (by decide)]
        have hcg : i3 95 = nI (nCaught N') := hp.1.2.2.2.2.2.2.2.2.1.2.1
        refine caught i3 (nCaught N') (fun _ _ => rfl) hcg (g7.2.1.2.2.2.2) ?_ gf3 _
        have : aLV 3 e t G' N' F' (x' :: l :: R) = aLeave 1 G' N' F' (x' :: l :: R) none := by
          show aThrow (tLet t) G' N' F' (x' :: l :: R) = _
          unfold aThrow
          rw [lvAt_yes (by unfold isTag; rw [xk', xt', beq_iff_eq.mpr d.symm]; rfl)]
        rw [this, leave1] at g4
        exact g4
      · rw [decide_eq_false d, b1_f, if_pos (show nI 0 = (0 : Int32) from rfl), b129 _ _ (by decide), b164_n]
        refine pass ⟨(fun h => by omega), fun _ => ?_, (fun h => by omega)⟩ _
        unfold isTag
        rw [xt', beq_eq_false_iff_ne.mpr (fun h => d h.symm)]
        exact Bool.and_false _
    · subst c
      rw [h3, if_neg (by decide)]
      unfold m_Model_caught_b129
      rw [h3, if_pos (show nI 2 = (2 : Int32) from rfl), ey, r_whatW (by omega), ob0_s, txt, ob0_s]
      rcases Classical.em (tLet tg = wError) with d | d
      · rw [decide_eq_true d, b1_t, if_neg (show ¬ nI 1 = (0 : Int32) by decide), ob1_s, ob1_s]
        have h126 : i3 126 = nI e := (hi 126 (by decide)).trans (s1 rfl)
        rw [h126]
        refine caught (upd i3 95 (nI e)) e (fun q hq => upd_ne hq) upd_at g2.2.2.1 ?_ (rFm_trans gf3 (rFm_i (by decide))) _
        have : aLV 2 e t G' N' F' (x' :: l :: R) = aLeave 1 G' (nSetCaught N' e) F' (x' :: l :: R) none := by
          show aFail e G' N' F' (x' :: l :: R) = _
          unfold aFail
          rw [lvAt_yes (by unfold isErr; rw [xk', xt', beq_iff_eq.mpr d]; rfl)]
        rw [this, leave1] at g4
        exact g4
      · rw [decide_eq_false d, b1_f, if_pos (show nI 0 = (0 : Int32) from rfl), b164_n]
        refine pass ⟨fun _ => ?_, (fun h => by omega), (fun h => by omega)⟩ _
        unfold isErr
        rw [xt', beq_eq_false_iff_ne.mpr d]
        exact Bool.and_false _
    · rw [h3, if_neg (fun h => by have := (nI_eq (by omega) (by omega)).mp (show nI lv = nI 3 from h); omega), b129 _ _ c, b164_n]
      refine pass ⟨(fun h => by omega), (fun h => by omega), fun _ => ?_⟩ _
      unfold isCall
      exact beq_eq_false_iff_ne.mpr (by omega)

