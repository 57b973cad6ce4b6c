/-! repeat and while in the reference -/
theorem PG_bindL {bd : Nat} {c0 c1 : Cfg} {x l : Lv} {R : List Lv} {T T' : Nat} {i : Nat → Int32} {j : Nat → Int64} {a : Nat → Nat → Int32} {b : Nat → Nat → Int64} {i0 : Nat → Int32} {j0 : Nat → Int64} {a0 : Nat → Nat → Int32} {b0 : Nat → Nat → Int64} {B B0 : RB4} {Z Z' : (Nat → Int32) → (Nat → Int64) → (Nat → Nat → Int32) → (Nat → Nat → Int64) → Int64 → RB4 → Prop} {o : Option ((Nat → Int32) × (Nat → Int64) × (Nat → Nat → Int32) × (Nat → Nat → Int64) × Int64)} {K : (Nat → Int32) → (Nat → Int64) → (Nat → Nat → Int32) → (Nat → Nat → Int64) → Int64 → Option ((Nat → Int32) × (Nat → Int64) × (Nat → Nat → Int32) × (Nat → Nat → Int64) × Int64)} (h : PG bd c0 x (l :: R) T' i j a b B Z o) (x1 : lK x ≠ 1) (x7 : lK x ≠ 7) (x8 : lK x ≠ 8) (ht : To bd c1 c0) (hu : rUp a0 b0 B0 a b B) (hf : rFm i0 j0 a0 b0 i j a b) (hk7 : kT7 b0 b T) (hT : T ≤ T') (h0 : ∀ i' j' a' b' v B', rUp a b B a' b' B' → rFm i j a b i' j' a' b' → i' 102 = 0 → Z i' j' a' b' v B' → PG bd c1 l R T i0 j0 a0 b0 B0 Z' (K i' j' a' b' v)) (h1 : ∀ i' j' a' b' v, i' 102 ≠ 0 → ∃ w, K i' j' a' b' v = some (i', j', a', b', w)) : PG bd c1 l R T i0 j0 a0 b0 B0 Z' (om o K) := by
  obtain ⟨i', j', a', b', v, B', e1, e2, e3, e4⟩ := h
  rw [e1, om_s]
  rcases e4 with ⟨e4, e5⟩ | e4 | e4
  · exact h0 i' j' a' b' v B' e2 e3 e4 e5
  · have hne : i' 102 = 1 := by
      obtain ⟨c', g1, _⟩ := e4
      exact g1
    obtain ⟨w, ew⟩ := h1 i' j' a' b' v (by rw [hne]; decide)
    exact ⟨i', j', a', b', w, B', ew, rUp_trans hu e2, rFm_trans hf e3, Or.inr (Or.inl (pStd_pre e4 ht))⟩
  · obtain ⟨w, ew⟩ := h1 i' j' a' b' v (pLv_102 e4).1
    exact ⟨i', j', a', b', w, B', ew, rUp_trans hu e2, rFm_trans hf e3, Or.inr (Or.inr (pLv_pop (pLv_pre e4 ht (sameL_refl x) hk7 hT) x1 x7 x8))⟩
theorem PG_failL {bd : Nat} {c1 : Cfg} {x l : Lv} {R : List Lv} {T : Nat} {i : Nat → Int32} {j : Nat → Int64} {a : Nat → Nat → Int32} {b : Nat → Nat → Int64} {i0 : Nat → Int32} {j0 : Nat → Int64} {a0 : Nat → Nat → Int32} {b0 : Nat → Nat → Int64} {B B0 : RB4} {Z : (Nat → Int32) → (Nat → Int64) → (Nat → Nat → Int32) → (Nat → Nat → Int64) → Int64 → RB4 → Prop} {G : GS} {N : LN} {F : List Fr} {e : Nat} {v : Int64} (he : e ≤ 13) (x1 : lK x ≠ 1) (x7 : lK x ≠ 7) (x8 : lK x ≠ 8) (ht : To bd c1 (aFail e G N F (x :: l :: R))) (hN : nState N = 1) (hI : IV G N F (x :: l :: R)) (hw : rWk i j a b B bd G N F (x :: l :: R)) (hu : rUp a0 b0 B0 a b B) (hf : rFm i0 j0 a0 b0 i j a b) (hk : kT7 b0 b T) : PG bd c1 l R T i0 j0 a0 b0 B0 Z (some (rFail i e, j, a, b, v)) := by
  rw [fail_pop (by unfold isErr; rw [beq_eq_false_iff_ne.mpr x8]; rfl)] at ht
  exact PG_fail he ht (sameL_refl l) hN (IV_pop hI) (rWk_pop hw x1 x7 x8) hu hf hk
/-- begins, in a level -/
theorem PG_beginsL {n bd : Nat} {c1 : Cfg} {x l : Lv} {R : List Lv} {T ph : Nat} {got : Option Tr} {rd : Option Wt} {i : Nat → Int32} {j : Nat → Int64} {a : Nat → Nat → Int32} {b : Nat → Nat → Int64} {i0 : Nat → Int32} {j0 : Nat → Int64} {a0 : Nat → Nat → Int32} {b0 : Nat → Nat → Int64} {B B0 : RB4} {G : GS} {N : LN} {F : List Fr} {Z : (Nat → Int32) → (Nat → Int64) → (Nat → Nat → Int32) → (Nat → Nat → Int64) → Int64 → RB4 → Prop} {K : (Nat → Int32) → (Nat → Int64) → (Nat → Nat → Int32) → (Nat → Nat → Int64) → Int32 → Option ((Nat → Int32) × (Nat → Int64) × (Nat → Nat → Int32) × (Nat → Nat → Int64) × Int64)} (x1 : lK x ≠ 1) (x7 : lK x ≠ 7) (x8 : lK x ≠ 8) (ht : To bd c1 (G, N, F, x :: l :: R, ph, got, rd)) (hph : ph = 3 ∨ ph = 4) (hv : aInv2 (G, N, F, x :: l :: R, ph, got, rd)) (hN : nState N = 1) (h : rFull i j a b B bd G N F (x :: l :: R)) (hu : rUp a0 b0 B0 a b B) (hf : rFm i0 j0 a0 b0 i j a b) (hk : kT7 b0 b T) (h0 : ∀ i', i' 102 ≠ 0 → ∃ w, K i' j a b 0 = some (i', j, a, b, w)) (h1 : nDone N < 20000 → nDone N < bd → To bd c1 (aApply (G, N, F, x :: l :: R, ph, got, rd)) → PG bd c1 l R T i0 j0 a0 b0 B0 Z (K (upd i 93 (nI (nDone N + 1))) j a b 1)) : PG bd c1 l R T i0 j0 a0 b0 B0 Z (om (m_Model_begins n i j a b) K) := by
  have h93 : i 93 = nI (nDone N) := h.1.1.2.2.2.2.2.2.2.2.1.1
  have h108 := h.1.1.2.2.2.2.2.2.2.2.2.1
  have hbd := h.1.1.2.2.2.2.2.2.2.2.2.2
  have hd : nDone N ≤ 20000 := (iv_of hv).2.1.2.2.1
  unfold m_Model_begins
  rw [h93, h108]
  rcases (by omega : nDone N = 20000 ∨ nDone N < 20000) with c | c
  · rw [c, if_pos (by decide), ob1_s, ob1_s, om_s]
    obtain ⟨w, ew⟩ := h0 (upd (upd i 102 6) 126 13) (by rw [upd_ne (by decide), upd_at]; decide)
    rw [ew]
    have tl := To_long (bd := bd) (c := (G, N, F, x :: l :: R, ph, got, rd)) hN (by show 3 ≤ ph; omega) (by show 20000 ≤ nDone N; omega)
    have tl2 := To_trans ht tl
    rw [finish_pop] at tl2
    refine ⟨_, _, _, _, _, B, rfl, hu, rFm_trans hf (rFm_trans (rFm_i (k := 102) (by decide)) (rFm_i (by decide))), Or.inr (Or.inr ⟨popG G x, N, popF F x, l, 6, 0, .nil, rfl, ⟨by decide, by decide, by decide, (fun h => by omega), (fun h => by omega)⟩, ⟨(fun h => by omega), (fun h => by omega), (fun h => by omega), fun _ => rfl⟩, tl2, sameL_refl l, hN, IV_pop (iv_of hv), rWk_i (rWk_pop h.1 x1 x7 x8) (fun q hq => by rw [upd_ne (fun h => by subst h; revert hq; decide), upd_ne (fun h => by subst h; revert hq; decide)]), hk⟩)⟩
  · rw [show (20000 : Int32) = nI 20000 from rfl, ieq_n (by omega), nI_ofInt, i32_64 (by omega) (by omega)]
    rcases Nat.lt_or_ge (nDone N) bd with d | d
    · rw [if_pos ((lg_lt (by omega) (by omega)).mpr (by omega)), ob1_s, ob1_s, om_s]
      have := h1 c d (To_trans ht (To_apply hN (by show 3 ≤ ph; omega) (by show nDone N < 20000; omega) (by show nDone N < bd; omega)))
      rw [show Int32.ofInt ((nDone N : Nat) : Int) + 1 = nI (nDone N + 1) from nI_add (nDone N) 1]
      exact this
    · rw [if_neg (fun e => by have := (lg_lt (by omega) (by omega)).mp e; omega), ob1_s, om_s]
      obtain ⟨w, ew⟩ := h0 (upd i 102 1) (by rw [upd_at]; decide)
      rw [ew]
      refine ⟨_, _, _, _, _, B, rfl, hu, rFm_trans hf (rFm_i (by decide)), Or.inr (Or.inl ⟨_, upd_at, ht, Or.inr ⟨by show 3 ≤ ph; omega, c, d⟩, hN, hv, ?_⟩)⟩
      exact ⟨rWk_i h.1 (fun q hq => upd_ne (fun h => by subst h; revert hq; decide)), rLc_i h.2 (upd_ne (by decide)) (upd_ne (by decide)) (upd_ne (by decide)) (upd_ne (by decide))⟩
/-- one more instruction is done -/
theorem rWo_93 {i : Nat → Int32} {j : Nat → Int64} {a : Nat → Nat → Int32} {b : Nat → Nat → Int64} {B : RB4} {bd : Nat} {G : GS} {N : LN} {F : List Fr} (h : rWo i j a b B bd G N F) (hd : nDone N < 20000) : rWo (upd i 93 (nI (nDone N + 1))) j a b B bd G (nSetDone N (nDone N + 1)) F ∧ (gOut G).length + 8001 * (20001 - nDone (nSetDone N (nDone N + 1))) + 8001 < gOb G := by
  obtain ⟨⟨w1, w2, w3⟩, w4, ⟨w5, w6, w7⟩, w8, ⟨w9, w10⟩, w11, ⟨w12, w13⟩, w14, ⟨w15, w16, w17⟩, w18, w19⟩ := id h
  have hu := rUp_refl (a := a) (b := b) (rWo_B h)
  have hi : ∀ q, q ≠ 93 → upd i 93 (nI (nDone N + 1)) q = i q := fun q hq => upd_ne hq
  have en : nDone (nSetDone N (nDone N + 1)) = nDone N + 1 := rfl
  rw [en]
  refine ⟨⟨⟨rB_i w1 (hi 18 (by decide)) (hi 19 (by decide)) (hi 20 (by decide)) (hi 21 (by decide)), w2, w3⟩, w4, ⟨w5, w6, (hi 99 (by decide)).trans w7⟩, rGl_up hu (hi 36 (by decide)) (fun _ _ => ⟨rfl, rfl⟩) w8, ⟨rPr_up hu (hi 33 (by decide)) (fun _ _ => ⟨rfl, rfl, rfl⟩) (fun _ _ => rfl) w9, w10⟩, rTu_up w11 (fun _ _ _ => rfl) (hi 47 (by decide)), ⟨w12, ?_⟩, (hi 46 (by decide)).trans w14, ⟨upd_at, (hi 95 (by decide)).trans w16, (hi 96 (by decide)).trans w17⟩, w18, w19⟩, by omega⟩
  rw [en]
  omega
theorem rFull_93 {i : Nat → Int32} {j : Nat → Int64} {a : Nat → Nat → Int32} {b : Nat → Nat → Int64} {B : RB4} {bd : Nat} {G : GS} {N : LN} {F : List Fr} {L : List Lv} (h : rFull i j a b B bd G N F L) (hd : nDone N < 20000) : rFull (upd i 93 (nI (nDone N + 1))) j a b B bd G (nSetDone N (nDone N + 1)) F L := ⟨⟨(rWo_93 h.1.1 hd).1, h.1.2.1, rAs_i h.1.2.2.1 (upd_ne (by decide)) (upd_ne (by decide)) (upd_ne (by decide)), h.1.2.2.2⟩, rLc_i h.2 (upd_ne (by decide)) (upd_ne (by decide)) (upd_ne (by decide)) (upd_ne (by decide))⟩
theorem lvCn_3 {x : Lv} {L : List Lv} (h : lK x = 3) : lvCn k3 (x :: L) = lvCn k3 L + 1 ∧ lvCn k5 (x :: L) = lvCn k5 L := by
  rw [lvCn, lvCn, h]
  exact ⟨Nat.add_comm _ _, Nat.zero_add _⟩
theorem lvW_0 {x : Lv} {L : List Lv} (h : lWs x = []) : lvWaits (x :: L) = lvWaits L := by rw [lvWaits, h]; exact Nat.zero_add _
theorem mapV_0 {x : Lv} {L : List Lv} (h : lVals x = []) : mapVals (x :: L) = mapVals L := by rw [mapVals, h]; exact Nat.zero_add _
theorem lOk_vals {l : Lv} (h : lOk l) (hk : lK l ≠ 10) : lVals l = [] := h.2.2.2.2.2.2.2.2.2.2.1 hk
/-- the end of a level that repeats -/
theorem rep_l {n bd D : Nat} {g : GB} (hR : RunsS bd D g.2.2.2.1) {c1 : Cfg} {N0 : LN} {l : Lv} {R : List Lv} {T T' : Nat} {i0 : Nat → Int32} {j0 : Nat → Int64} {a0 : Nat → Nat → Int32} {b0 : Nat → Nat → Int64} {B0 : RB4} {u : Tr} {z r : Nat} {v : Int64} (hN0 : nDone N0 ≤ cDone c1) (hz : z ≤ 1000000000) (hr : r = lvCn k3 (l :: R)) (htp : rTop i0 a0 b0 B0 l) (hTT : T ≤ T') (hD : 6 * (151 - (l :: R).length - 1) + (401 - lvWaits (l :: R)) + 1 ≤ D) (hT : T' ≤ 10 * lvWaits (l :: R) + 10 * ((l :: R).length + 1) + mapVals (l :: R)) : ∀ (m f : Nat) (i : Nat → Int32) (j : Nat → Int64) (a : Nat → Nat → Int32) (b : Nat → Nat → Int64) (B : RB4) (G : GS) (N : LN) (F : List Fr) (x : Lv) (k : Nat), m = 20000 - nDone N → m + 2 < f → To bd c1 (G, N, F, x :: l :: R, 0, none, none) → nState N = 1 → IV G N F (x :: l :: R) → lK x = 3 → lTurns x = k → lLim x = z → lLst x = u → lNx x = 0 → lWs x = [] → rWo i j a b B bd G N F → rRow a b B (l :: R) → a 120 r = nI (lvCalls (l :: R)) → rAs i G (x :: l :: R) → rPd B N (x :: l :: R) → rLc i (x :: l :: R) → i 105 = i0 105 → i 106 = i0 106 → i 102 = 0 → i 107 = nI T' → rV a b B u none v → rUp a0 b0 B0 a b B → rFm i0 j0 a0 b0 i j a b → kT7 b0 b T → PG bd c1 l R T i0 j0 a0 b0 B0 (ZL bd c1 N0 l R T b0) (m_Model_repeated_b86 n g (m_Model_repeated_b56 n g f) i j a b (nI z) v (nI r) (nI k)) := by
  intro m
  induction m using Nat.strongRecOn with
  | _ m ih =>
    intro f i j a b B G N F x k hm hf ht hN hI xk xt xl xu xn xw hw hrow h120 has hpd hlc h105 h106 h102 h107 hv hu hfm hk7
    have hlen : (x :: l :: R).length ≤ 150 := hI.2.2.1.2.1
    have hr9 : r ≤ 150 := by rw [hr]; have := lvCn_le k3 (l :: R); simp only [List.length_cons] at hlen this ⊢; omega
    have hlo := IV_l hI
    have xv := lOk_vals hlo (by omega)
    have hk1 : 1 ≤ k := by rw [← xt]; exact hlo.2.2.2.1
    have hkz : k ≤ z := by rw [← xt, ← xl]; exact hlo.2.2.2.2.2.2.1 xk
    obtain ⟨f, rfl⟩ : ∃ f', f = f' + 1 := ⟨f - 1, by omega⟩
    unfold m_Model_repeated_b86
    rw [ck_n (by omega), cl_n (by omega), ob1_s]
    obtain ⟨a2, ea2⟩ : ∃ a2, a2 = sv a 119 r (nI k) := ⟨_, rfl⟩
    rw [← ea2]
    have ha2 : ∀ q, q ≠ 119 → a2 q = a q := fun q hq => by rw [ea2]; exact updA_ne hq
    have h119 : a2 119 r = nI k := by rw [ea2]; exact sv_at
    have h119n : ∀ q, q ≠ r → a2 119 q = a 119 q := fun q hq => by rw [ea2]; exact sv_ne hq
    obtain ⟨hu2, hw2⟩ := rWo_ab (a' := a2) (b' := b) hw (fun q hq => ha2 q (nm_ne hq (by decide))) (fun _ _ => rfl)
    have hrow2 : rRow a2 b B (x :: l :: R) := ⟨fun _ => ⟨by rw [← hr, h119, xt], by rw [← hr, ha2 120 (by decide)]; exact h120⟩, (fun h => by omega), (fun h => by omega), rRow_up hu2 (l :: R) hrow (fun q hq => ⟨h119n q (by omega), by rw [ha2 120 (by decide)]⟩) (fun q _ => ⟨by rw [ha2 121 (by decide)], rfl⟩) (fun _ _ => rfl)⟩
    have hT2 : tpOk T' (x :: l :: R) := by
      unfold tpOk
      rw [lvW_0 xw, mapV_0 xv]
      simp only [List.length_cons] at hT ⊢
      omega
    have hrun := hR i j a2 b B G N F x (l :: R) T' v hN hI ⟨⟨hw2, hrow2, has, hpd⟩, hlc⟩ xw xn h102 h107 hT2 (by rw [xu]; exact (rV_up hu2 _).1 _ hv) (by rw [lvW_0 xw]; simp only [List.length_cons] at hD ⊢; omega)
    rw [show decide (6 ≤ lK x) = false by rw [xk]; rfl, b1_f] at hrun
    have hf2 : rFm i j a b i j a2 b := ⟨fun _ _ => rfl, fun _ _ => rfl, fun q hq => ha2 q (nm_ne hq (by decide)), fun _ _ => rfl⟩
    refine PG_bindL hrun (by omega) (by omega) (by omega) ht (rUp_trans hu hu2) (rFm_trans hfm hf2) hk7 hTT ?_ ?_
    · intro i' j' a' b' w B' gu gf g102 gz
      obtain ⟨G', N', F', x', got, z1, z2, z3, z4, z5, z6, z7, z8, z9, z10, z11, z12, z13⟩ := gz
      have xk' : lK x' = 3 := z2.1.trans xk
      have xt' : lTurns x' = k := z2.2.2.2.1.trans xt
      have xl' : lLim x' = z := z2.2.2.2.2.2.2.1.trans xl
      have hto := To_trans ht z1
      have hd2 : nDone N0 ≤ nDone N' := Nat.le_trans hN0 (dn_To hto)
      rw [ob1_s, show nI k + (1 : Int32) = nI (k + 1) from nI_add k 1, m_Model_repeated_b56]
      obtain ⟨c3, c5⟩ := lvCn_3 (L := l :: R) xk'
      rcases (by omega : k = z ∨ k < z) with c | c
      · rw [ilt_p (by omega)]
        unfold m_Model_repeated_b109
        rw [if_pos g102, ob1_s, ob1_s, ob1_s]
        have ed : aDone G' N' F' x' (l :: R) got = aLeave 1 G' N' F' (x' :: l :: R) none := by
          unfold aDone
          rw [if_neg (by omega), if_pos xk', if_neg (by omega)]
        have hto2 := To_trans hto (To2 (bd := bd) z5)
        rw [ed, leave1] at hto2
        obtain ⟨i5, e5⟩ : ∃ i5, i5 = upd (upd i' 116 (nI r)) 97 (upd i' 116 (nI r) 97 - 1) := ⟨_, rfl⟩
        rw [← e5]
        have hq : ∀ q, q ≠ 116 → q ≠ 97 → i5 q = i' q := fun q h1 h2 => by rw [e5, upd_ne h2, upd_ne h1]
        refine ⟨i5, j', a', b', 3, B', rfl, rUp_trans (rUp_trans hu hu2) gu, rFm_trans (rFm_trans (rFm_trans hfm hf2) gf) ⟨fun q h9 => hq q (nm_ne h9 (by decide)) (nm_ne h9 (by decide)), fun _ _ => rfl, fun _ _ => rfl, fun _ _ => rfl⟩, Or.inl ⟨(hq 102 (by decide) (by decide)).trans g102, popG G' x', N', popF F' x', none, hto2, z5, hd2, IV_pop z7, ⟨rWk_i (rWk_pop z8.1 (by omega) (by omega) (by omega)) (fun q h9 => hq q (fun h => by subst h; revert h9; decide) (fun h => by subst h; revert h9; decide)), ?_, ?_, ?_, ?_⟩, rTop_ct (rUp_trans (rUp_trans hu hu2) gu) ((hq 105 (by decide) (by decide)).trans (z9.trans h105)) ((hq 106 (by decide) (by decide)).trans (z10.trans h106)) htp, kT7_trans hk7 z12 hTT, rfl⟩⟩
        · rw [e5, upd_at, upd_ne (by decide), z8.2.1, rI_pred (by simp) (by simp only [List.length_cons] at hlen ⊢; omega)]
          rfl
        · rw [hq 98 (by decide) (by decide), z8.2.2.1, lvW_0 z3]
        · rw [e5, upd_ne (by decide), upd_at, hr]
        · rw [hq 117 (by decide) (by decide), z8.2.2.2.2, c5]
      · rw [ilt_n (by omega), if_pos g102, show (1 : Int32) = nI 1 from rfl, ile_n (by omega)]
        have ed : aDone G' N' F' x' (l :: R) got = (G', N', F', x' :: l :: R, 4, none, none) := by
          unfold aDone
          rw [if_neg (by omega), if_pos xk', if_pos (by omega)]
        have hto2 := To_trans hto (To2 (bd := bd) z5)
        rw [ed] at hto2
        have hv4 : aInv2 (G', N', F', x' :: l :: R, 4, none, none) := iv_4 z7 (Or.inl ⟨xk', by omega⟩)
        refine PG_beginsL (by omega) (by omega) (by omega) hto2 (Or.inr rfl) hv4 z5 z8 (rUp_trans (rUp_trans hu hu2) gu) (rFm_trans (rFm_trans hfm hf2) gf) (kT7_trans hk7 z12 hTT) (fun i5 _ => ⟨3, by rw [if_pos (show (0 : Int32) = 0 from rfl)]⟩) ?_
        intro d1 d2 hto3
        rw [if_neg (show ¬ (1 : Int32) = 0 by decide)]
        have ea : aApply (G', N', F', x' :: l :: R, 4, none, none) = (G', nSetDone N' (nDone N' + 1), F', (lK x', lLst x', 0, lTurns x' + 1, lLim x', lOth x', lMark x', lTag x', lWs x', lVals x') :: l :: R, 0, none, none) := by
          show (G', nSetDone N' (nDone N' + 1), F', aTurnOn x' :: l :: R, 0, none, none) = _
          unfold aTurnOn
          rw [if_neg (by omega)]
        have hI4 := iv_apply hv4 z5 (Or.inr rfl) d1 (fun w hw9 => by cases hw9) (fun l9 R9 e9 h9 => by have := (List.cons.inj e9).1; subst this; omega)
        have hw3 := rFull_93 z8 d1
        rw [ea] at hto3 hI4
        have hI3 := iv_of hI4
        have hm1 : 20000 - (nDone N' + 1) < m := by have : nDone N ≤ nDone N' := dn_To z1; omega
        refine ih (20000 - (nDone N' + 1)) hm1 f _ j' a' b' B' G' _ F' _ (k + 1) rfl (by omega) hto3 z5 hI3 xk' (by show lTurns x' + 1 = k + 1; omega) xl' (z2.2.2.2.2.2.1.trans xu) rfl z3 hw3.1.1 hw3.1.2.1.2.2.2 ?_ hw3.1.2.2.1 hw3.1.2.2.2 ?_ ((upd_ne (by decide)).trans (z9.trans h105)) ((upd_ne (by decide)).trans (z10.trans h106)) ((upd_ne (by decide)).trans g102) ((upd_ne (by decide)).trans z11) ((rV_up (rUp_trans hu2 gu) _).1 _ hv) (rUp_trans (rUp_trans hu hu2) gu) (rFm_trans (rFm_trans (rFm_trans hfm hf2) gf) (rFm_i (by decide))) (kT7_trans hk7 z12 hTT)
        · have := (z8.1.2.1.1 xk').2
          rw [← hr] at this
          exact this
        · exact hw3.2
    · intro i' j' a' b' w hne
      rw [ob1_s, m_Model_repeated_b56]
      unfold m_Model_repeated_b109
      rw [if_neg hne]
      split
      · exact ⟨_, rfl⟩
      · exact ⟨_, rfl⟩
/-- repeat -/
theorem r_repeated {n D : Nat} {i : Nat → Int32} {j : Nat → Int64} {a : Nat → Nat → Int32} {b : Nat → Nat → Int64} {B : RB4} {bd : Nat} {G : GS} {N : LN} {F : List Fr} {g : GB} (hn : 100000 ≤ n) (hR : RunsS bd D g.2.2.2.1) {l : Lv} {R : List Lv} {T T' : Nat} {u : Tr} {z : Int} {v : Int64} {c0 : Cfg} (hc0 : c0 = if z ≤ 0 then (G, N, F, l :: R, 1, none, none) else aOpen G N F (l :: R) (lNew 3 u z.toNat .nil 0 .nil)) (hN : nState N = 1) (hv0 : aInv2 c0) (hI : IV G N F (l :: R)) (hw : rFull i j a b B bd G N F (l :: R)) (htp : rTop i a b B l) (h102 : i 102 = 0) (h107 : i 107 = nI T') (hTT : T ≤ T') (hT : T' ≤ 10 * lvWaits (l :: R) + 10 * ((l :: R).length + 1) + mapVals (l :: R)) (hz : -1000000000 ≤ z ∧ z ≤ 1000000000) (hv : rV a b B u none v) (hD : 6 * (151 - (l :: R).length - 1) + (401 - lvWaits (l :: R)) + 1 ≤ D) : PG bd c0 l R T i j a b B (ZL bd c0 N l R T b) (m_Model_repeated n g i j a b (Int32.ofInt z) v) := by
  have h97 : i 97 = nI (l :: R).length := hw.2.1
  have hlen := hI.2.2.1.2.1
  unfold m_Model_repeated m_Model_hasLevel
  rw [show (1 : Int32) = Int32.ofInt 1 from rfl]
  rcases Classical.em (z < 1) with c | c
  · rw [if_pos ((I_lt (by omega) (by omega)).mpr c)]
    rw [if_pos (by omega)] at hc0
    rw [hc0]
    exact ⟨i, j, a, b, 3, B, rfl, rUp_refl (rWo_B hw.1.1), rFm_refl, Or.inl ⟨h102, G, N, F, none, To_refl, hN, Nat.le_refl _, hI, hw, htp, kT7_refl, rfl⟩⟩
  rw [if_neg (fun e => c ((I_lt (by omega) (by omega)).mp e)), h97, show (150 : Int32) = nI 150 from rfl]
  rw [if_neg (by omega)] at hc0
  rcases (by omega : (l :: R).length = 150 ∨ (l :: R).length < 150) with d | d
  · have ea : c0 = aFail 6 G N F (l :: R) := by rw [hc0]; unfold aOpen; rw [if_pos (by omega)]
    rw [ieq_p (by omega), show (6 : Int32) = nI 6 from rfl, r_fails, om_s, om_s, if_pos rfl, ea]
    exact PG_fail (by decide) To_refl (sameL_refl l) hN hI hw.1 (rUp_refl (rWo_B hw.1.1)) rFm_refl kT7_refl
  have ea : c0 = (G, N, F, lNew 3 u z.toNat .nil 0 .nil :: l :: R, 0, none, none) := by rw [hc0]; unfold aOpen; rw [if_neg (by omega)]
  rw [ea] at hv0 ⊢
  rw [ieq_n (by omega), om_s, if_neg (by decide)]
  simp only [ob1_s]
  obtain ⟨x, ex⟩ : ∃ x, x = lNew 3 u z.toNat .nil 0 .nil := ⟨_, rfl⟩
  rw [← ex] at hv0 ⊢
  have xk : lK x = 3 := by rw [ex]; rfl
  obtain ⟨r, hr⟩ : ∃ r, r = lvCn k3 (l :: R) := ⟨_, rfl⟩
  have hr9 : r ≤ 150 := by rw [hr]; have := lvCn_le k3 (l :: R); omega
  have h116 : i 116 = nI r := by rw [hr]; exact hw.2.2.2.1
  have h99 : i 99 = nI F.length := hw.1.1.2.2.1.2.2
  have hFl : F.length = lvCalls (l :: R) := hI.2.2.1.2.2.2.2.1
  rw [h116, ck_n (by omega), cl_n (by omega), h99]
  obtain ⟨a2, ea2⟩ : ∃ a2, a2 = sv a 120 r (nI F.length) := ⟨_, rfl⟩
  have ha2 : ∀ q, q ≠ 120 → a2 q = a q := fun q hq => by rw [ea2]; exact updA_ne hq
  have h120 : a2 120 r = nI (lvCalls (l :: R)) := by rw [ea2, ← hFl]; exact sv_at
  have h120n : ∀ q, q ≠ r → a2 120 q = a 120 q := fun q hq => by rw [ea2]; exact sv_ne hq
  obtain ⟨hu2, hw2⟩ := rWo_ab (a' := a2) (b' := b) hw.1.1 (fun q hq => ha2 q (nm_ne hq (by decide))) (fun _ _ => rfl)
  have e116 : upd i 116 (nI r + Int32.ofInt 1) 97 = i 97 := upd_ne (by decide)
  rw [← ea2, e116, h97]
  obtain ⟨i2, e2⟩ : ∃ i2, i2 = upd (upd i 116 (nI r + Int32.ofInt 1)) 97 (nI (l :: R).length + Int32.ofInt 1) := ⟨_, rfl⟩
  rw [← e2]
  have q2 : ∀ q, q ≠ 116 → q ≠ 97 → i2 q = i q := fun q h1 h2 => by rw [e2, upd_ne h2, upd_ne h1]
  obtain ⟨c3, c5⟩ := lvCn_3 (L := l :: R) xk
  obtain ⟨n, rfl⟩ : ∃ n', n = n' + 1 := ⟨n - 1, by omega⟩
  rw [m_Model_repeated_b56, show Int32.ofInt z = nI z.toNat by rw [nI_ofInt, Int.toNat_of_nonneg (by omega)], show Int32.ofInt 1 = nI 1 from rfl, ilt_n (by omega), if_pos ((q2 102 (by decide) (by decide)).trans h102), if_pos (by decide)]
  refine rep_l (n := n + 1) (N0 := N) hR (Nat.le_refl _) (by omega) hr htp hTT hD hT (20000 - nDone N) n i2 j a2 b B G N F x 1 rfl (by omega) To_refl hN (iv_of hv0) xk (by rw [ex]; rfl) (by rw [ex]; rfl) (by rw [ex]; rfl) (by rw [ex]; rfl) (by rw [ex]; rfl) (rWo_i hw2 (fun q hq => q2 q (fun h => by subst h; revert hq; decide) (fun h => by subst h; revert hq; decide))) (rRow_up hu2 (l :: R) hw.1.2.1 (fun q hq => ⟨by rw [ha2 119 (by decide)], h120n q (by omega)⟩) (fun q _ => ⟨by rw [ha2 121 (by decide)], rfl⟩) (fun _ _ => rfl)) h120 (rAs_push (rAs_i hw.1.2.2.1 (q2 118 (by decide) (by decide)) (q2 103 (by decide) (by decide)) (q2 104 (by decide) (by decide))) (by omega) (by omega)) (rPd_push hw.1.2.2.2 (by rw [ex]; rfl) (by omega)) ⟨?_, ?_, ?_, ?_⟩ (q2 105 (by decide) (by decide)) (q2 106 (by decide) (by decide)) ((q2 102 (by decide) (by decide)).trans h102) ((q2 107 (by decide) (by decide)).trans h107) ((rV_up hu2 _).1 _ hv) hu2 ⟨fun q hq => q2 q (nm_ne hq (by decide)) (nm_ne hq (by decide)), fun _ _ => rfl, fun q hq => ha2 q (nm_ne hq (by decide)), fun _ _ => rfl⟩ kT7_refl
  · rw [e2, upd_at]
    exact nI_add _ 1
  · rw [q2 98 (by decide) (by decide), lvW_0 (by rw [ex]; rfl)]
    exact hw.2.2.1
  · rw [e2, upd_ne (by decide), upd_at, c3, ← hr]
    exact nI_add _ 1
  · rw [q2 117 (by decide) (by decide), c5]
    exact hw.2.2.2.2

