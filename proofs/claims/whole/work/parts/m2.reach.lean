/-! foreach and map in the reference -/
theorem tSz_snoc (l : List Tr) (v : Tr) : tSz (tL (l ++ [v])) = tSz (tL l) + tSz v := by
  rw [tSz_tL, tSz_tL, List.map_append, List.sum_append]
  simp only [List.map_cons, List.map_nil, List.sum_cons, List.sum_nil]
  omega
theorem map_puts {n : Nat} {g : GB} {i0 : Nat → Int32} {b0 : Nat → Nat → Int64} {j : Nat → Int64} {a : Nat → Nat → Int32} {B : RB4} {ms : List Tr} {base : Nat} {v7 : Int32} (h107 : i0 107 = nI (base + ms.length)) (hb : base + ms.length ≤ 36000) (hB : B.2.2.2 + ms.length ≤ 90000) (hv : ∀ q (h : q < ms.length), rV a b0 B (ms[q]'h) none (b0 111 (base + q))) : ∀ (m k f : Nat) (i : Nat → Int32) (b : Nat → Nat → Int64), k + m = ms.length → m < f → PUT i0 i a b0 b B (ms.take k) → ∃ i' b' f', m_Model_forEach_b287 n g f i j a b v7 (nI (base + k)) = m_Model_forEach_b287 n g (f' + 1) i' j a b' v7 (nI (base + ms.length)) ∧ PUT i0 i' a b0 b' B ms := by
  intro m
  induction m with
  | zero =>
    intro k f i b hk hf h
    obtain ⟨f, rfl⟩ : ∃ f', f = f' + 1 := ⟨f - 1, by omega⟩
    have : k = ms.length := by omega
    subst this
    rw [List.take_length] at h
    exact ⟨i, b, f, rfl, h⟩
  | succ m ih =>
    intro k f i b hk hf h
    obtain ⟨f, rfl⟩ : ∃ f', f = f' + 1 := ⟨f - 1, by omega⟩
    have hkl : k < ms.length := by omega
    have e111 : b 111 = b0 111 := h.2.1.1 111 (by decide)
    obtain ⟨i1, b1, p1, p2⟩ := r_put1 (n := n) (j := j) (t := ms[k]'hkl) (v := b0 111 (base + k)) h (by rw [List.length_take]; omega) (hv k hkl)
    rw [← List.take_succ_eq_append_getElem hkl] at p2
    obtain ⟨i', b', f', q1, q2⟩ := ih (k + 1) f i1 b1 (by omega) (by omega) p2
    refine ⟨i', b', f', ?_, q2⟩
    rw [m_Model_forEach_b287, h.1.1 107 (by decide), h107, ile_n (by omega), ck_n (by omega), cl_n (by omega), e111, p1, om_s, ob1_s, show nI (base + k) + (1 : Int32) = nI (base + (k + 1)) from nI_add _ 1]
    exact q1
/-- the list of a map is made -/
theorem map_end {n : Nat} {g : GB} {i : Nat → Int32} {j : Nat → Int64} {a : Nat → Nat → Int32} {b : Nat → Nat → Int64} {B : RB4} {bd : Nat} {G : GS} {N : LN} {F : List Fr} {ms : List Tr} {base pd : Nat} (hn : 100000 ≤ n) (h : rWo i j a b B bd G N F) (hm : nMade N ≤ 30000) (h107 : i 107 = nI (base + ms.length)) (hb : base + ms.length ≤ 36000) (hr1 : B.2.2.1 + 1 + pd ≤ 56000 + nMade N) (hr2 : B.2.2.2 + ms.length + pd ≤ 56000 + nMade N) (hs : tSz (tL ms) ≤ 600) (hv : ∀ q (h : q < ms.length), rV a b B (ms[q]'h) none (b 111 (base + q))) : ∃ i' a' b' v B', m_Model_forEach_b287 n g n i j a b (nI base) (nI base) = some (i', j, a', b', v) ∧ rUp a b B a' b' B' ∧ rWo i' j a' b' B' bd G N F ∧ rV a' b' B' (tL ms) none v ∧ (B'.2.2.1 = B.2.2.1 + 1 ∧ B'.2.2.2 = B.2.2.2 + ms.length) ∧ i' 107 = nI base ∧ (∀ q, q ≠ 20 → q ≠ 21 → q ≠ 107 → i' q = i q) ∧ (∀ q, q ≠ 12 → q ≠ 13 → q ≠ 14 → a' q = a q) ∧ (∀ q, q ≠ 10 → b' q = b q) := by
  have hB := rWo_B h
  obtain ⟨j1, j2, j3, j4, _⟩ := id h.1.1
  obtain ⟨i1, b1, f1, p1, p2⟩ := map_puts (n := n) (g := g) (i0 := i) (b0 := b) (j := j) (a := a) (B := B) (ms := ms) (base := base) (v7 := nI base) h107 hb (by omega) hv ms.length 0 n i b (by omega) (by omega) (PUT_nil j4 hB)
  rw [Nat.add_zero] at p1
  obtain ⟨⟨u1, u2, u3⟩, ⟨u4, u5⟩, u6⟩ := id p2
  have hup1 : rUp a b B a b1 (B.1, B.2.1, B.2.2.1, B.2.2.2 + ms.length) := ⟨⟨Nat.le_refl _, hB.1, Nat.le_refl _, hB.2.1, Nat.le_refl _, hB.2.2.1, Nat.le_add_right _ _, u3⟩, fun _ _ => ⟨rfl, rfl⟩, fun _ _ => rfl, fun _ _ => ⟨rfl, rfl, rfl⟩, fun x hx => u5 x hx⟩
  have hvB : ∀ k (h : k < ms.length), rV a b1 (B.1, B.2.1, B.2.2.1, B.2.2.2 + ms.length) (ms[k]'h) none (b1 10 (B.2.2.2 + k)) := fun k hk => (rV_up hup1 _).1 _ (u6 k hk)
  have hfine := r_fine (a := a) (b := b1) (B := (B.1, B.2.1, B.2.2.1, B.2.2.2 + ms.length)) (ms := ms) (fun k hk => ⟨_, hvB k hk⟩) hs
  have hnl := r_newList (n := n) (i := i1) (j := j) (a := a) (b := b1) (B := (B.1, B.2.1, B.2.2.1, B.2.2.2 + ms.length)) (Ls := B.2.2.1) (C := B.2.2.2 + ms.length) (ms := ms) (by omega) u2 ((u1 21 (by decide)).trans j3) u3 (by omega) (by omega) (fun k hk => by rw [Nat.add_sub_cancel]; exact hvB k hk)
  rw [Nat.add_sub_cancel] at hnl
  have hrl := rV_list (a := a) (b := b1) (B := (B.1, B.2.1, B.2.2.1, B.2.2.2 + ms.length)) (ms := ms) ⟨hB.1, hB.2.1, by show B.2.2.1 < 90000; omega, u3⟩ (Nat.le_add_left _ _) hfine (fun k hk => by show rV _ _ _ _ none (b1 10 (B.2.2.2 + ms.length - ms.length + k)); rw [Nat.add_sub_cancel]; exact hvB k hk)
  have hul := rUp_list (a := a) (b := b1) (B := (B.1, B.2.1, B.2.2.1, B.2.2.2 + ms.length)) (p := B.2.2.2 + ms.length - ms.length) (c := ms.length) (s := tSz (tL ms)) ⟨hB.1, hB.2.1, by show B.2.2.1 < 90000; omega, u3⟩
  have hur := rUp_trans hup1 hul
  have es : nI (base + ms.length) - nI base = nI ms.length := by rw [sub_n (by omega), Nat.add_sub_cancel_left]
  have e287 : m_Model_forEach_b287 n g n i j a b (nI base) (nI base) = some (upd (upd i1 21 (nI (B.2.2.1 + 1))) 107 (nI base), j, lsA a B.2.2.1 B.2.2.2 ms.length (tSz (tL ms)), b1, vL B.2.2.1) := by
    rw [p1, m_Model_forEach_b287, u1 107 (by decide), h107, ile_p (by omega), es, hnl, om_s, ob1_s]
  rw [Nat.add_sub_cancel] at hur hul
  have hrl2 : rV (lsA a B.2.2.1 B.2.2.2 ms.length (tSz (tL ms))) b1 (B.1, B.2.1, B.2.2.1 + 1, B.2.2.2 + ms.length) (tL ms) none (vL B.2.2.1) := by
    have := hrl
    rw [show (B.1, B.2.1, B.2.2.1, B.2.2.2 + ms.length).2.2.2 - ms.length = B.2.2.2 from Nat.add_sub_cancel _ _] at this
    exact this
  have hA : ∀ q, q ≠ 12 → q ≠ 13 → q ≠ 14 → lsA a B.2.2.1 B.2.2.2 ms.length (tSz (tL ms)) q = a q := fun q h1 h2 h3 => by
    unfold lsA sv
    rw [updA_ne h3, updA_ne h2, updA_ne h1]
  have hi : ∀ q, q ≠ 20 → q ≠ 21 → q ≠ 107 → upd (upd i1 21 (nI (B.2.2.1 + 1))) 107 (nI base) q = i q := fun q h1 h2 h3 => by rw [upd_ne h3, upd_ne h2]; exact u1 q h1
  have hb9 : rB (upd i1 21 (nI (B.2.2.1 + 1))) (B.1, B.2.1, B.2.2.1 + 1, B.2.2.2 + ms.length) := ⟨(upd_ne (by decide)).trans ((u1 19 (by decide)).trans j1), (upd_ne (by decide)).trans ((u1 18 (by decide)).trans j2), upd_at, (upd_ne (by decide)).trans u2, hB.1, hB.2.1, by show B.2.2.1 + 1 ≤ 90000; omega, u3⟩
  have hC := rC_list hur h.1.2.1 rfl rfl (hA 4 (by decide) (by decide) (by decide)) (hA 7 (by decide) (by decide) (by decide)) (u4 9 (by decide))
  have hw := rWo_up (m := nMade N) (i' := upd i1 21 (nI (B.2.2.1 + 1))) h hur hb9 hC ⟨h.1.2.2.1, by show B.2.2.1 + 1 ≤ _; omega, by show B.2.2.2 + ms.length ≤ _; omega⟩ ((upd_ne (by decide)).trans ((u1 96 (by decide)).trans h.2.2.2.2.2.2.2.2.1.2.2)) (fun q hq => hA q (nm_ne hq (by decide)) (nm_ne hq (by decide)) (nm_ne hq (by decide))) (fun q hq => u4 q (nm_ne hq (by decide))) (fun q hq => (upd_ne (nm_ne hq (by decide))).trans (u1 q (nm_ne hq (by decide))))
  exact ⟨_, _, b1, _, _, e287, hur, rWo_i hw (fun q hq => upd_ne (fun e => by subst e; revert hq; decide)), hrl2, ⟨rfl, rfl⟩, upd_at, hi, hA, u4⟩
theorem rWo_made {i : Nat → Int32} {j : Nat → Int64} {a : Nat → Nat → Int32} {b : Nat → Nat → Int64} {B : RB4} {bd : Nat} {G : GS} {N : LN} {F : List Fr} {m : Nat} (h : rWo i j a b B bd G N F) (hm : nMade N ≤ m) : rWo (upd i 96 (nI m)) j a b B bd G (nSetMade N m) F :=
  rWo_up h (rUp_refl (rWo_B h)) (rB_i h.1.1 (upd_ne (by decide)) (upd_ne (by decide)) (upd_ne (by decide)) (upd_ne (by decide))) h.1.2.1 ⟨by have := h.1.2.2.1; omega, by have := h.1.2.2.2.1; omega, by have := h.1.2.2.2.2; omega⟩ upd_at (fun _ _ => rfl) (fun _ _ => rfl) (fun q hq => upd_ne (nm_ne hq (by decide)))
theorem lvCn_5 {x : Lv} {L : List Lv} (h : lK x = 5 ∨ lK x = 10) : lvCn k5 (x :: L) = lvCn k5 L + 1 ∧ lvCn k3 (x :: L) = lvCn k3 L := by
  rw [lvCn, lvCn]
  rcases h with h | h <;> rw [h] <;> exact ⟨Nat.add_comm _ _, Nat.zero_add _⟩
theorem each_l {n bd D : Nat} {g : GB} (hn : 100000 ≤ n) (hR : RunsS bd D g.2.2.2.1) {c1 : Cfg} {N0 : LN} {l : Lv} {R : List Lv} {T base : Nat} {i0 : Nat → Int32} {j0 : Nat → Int64} {a0 : Nat → Nat → Int32} {b0 : Nat → Nat → Int64} {B0 : RB4} {t u : Tr} {mp : Bool} {r : Nat} {v1 v3 : Int64} (hN0 : nDone N0 ≤ cDone c1) (hr : r = lvCn k5 (l :: R)) (htp : rTop i0 a0 b0 B0 l) (hTT : T ≤ base) (htl : isL t = true) (hD : 6 * (151 - (l :: R).length - 1) + (401 - lvWaits (l :: R)) + 1 ≤ D) (hT : base ≤ 10 * lvWaits (l :: R) + 10 * ((l :: R).length + 1) + mapVals (l :: R)) : ∀ (m f : Nat) (i : Nat → Int32) (j : Nat → Int64) (a : Nat → Nat → Int32) (b : Nat → Nat → Int64) (B : RB4) (G : GS) (N : LN) (F : List Fr) (x : Lv) (k : Nat), m = 20000 - nDone N → m + 2 < f → To bd c1 (G, N, F, x :: l :: R, 0, none, none) → nState N = 1 → IV G N F (x :: l :: R) → lK x = (if mp then 10 else 5) → lTurns x = k + 1 → lOth x = t → lLst x = u → lNx x = 0 → lWs x = [] → rWo i j a b B bd G N F → rRow a b B (l :: R) → a 121 r = nI (lvCalls (l :: R)) → rAs i G (x :: l :: R) → rPd B N (x :: l :: R) → rLc i (x :: l :: R) → i 105 = i0 105 → i 106 = i0 106 → i 102 = 0 → i 107 = nI (base + (lVals x).length) → (∀ q (h : q < (lVals x).length), rV a b B ((lVals x)[q]'h) none (b 111 (base + q))) → rV a b B t none v1 → rV a b B u none v3 → rUp a0 b0 B0 a b B → rFm i0 j0 a0 b0 i j a b → kT7 b0 b T → k < (tMem t).length → PG bd c1 l R T i0 j0 a0 b0 B0 (ZL bd c1 N0 l R T b0) (m_Model_forEach_b136 n g (m_Model_forEach_b113 n g f) i j a b v1 v3 (b1 mp) (nI (tMem t).length) (nI base) (nI (lLim x)) (nI r) (nI k)) := by
  intro m
  induction m using Nat.strongRecOn with
  | _ m ih =>
    intro f i j a b B G N F x k hm hf ht hN hI xk xt xo xu xn xw hw hrow h121 has hpd hlc h105 h106 h102 h107 hvals hv1 hv3 hu hfm hk7 hkm
    have hlen : (x :: l :: R).length ≤ 150 := hI.2.2.1.2.1
    have hr9 : r ≤ 150 := by rw [hr]; have := lvCn_le k5 (l :: R); simp only [List.length_cons] at hlen this ⊢; omega
    have hlo := IV_l hI
    have xk2 : lK x = 5 ∨ lK x = 10 := by rw [xk]; cases mp <;> simp
    have tml := r_isL_eq hv1 htl
    have hv1' := hv1
    rw [tml] at hv1'
    have hml : (tMem t).length ≤ 90000 := r_len5 hv1'
    obtain ⟨f, rfl⟩ : ∃ f', f = f' + 1 := ⟨f - 1, by omega⟩
    obtain ⟨y, ey, hy⟩ := r_member (n := n) (i := i) (j := j) hv1' hkm
    have hT2 : tpOk (base + (lVals x).length) (x :: l :: R) := by
      unfold tpOk
      rw [lvW_0 xw, mapVals]
      simp only [List.length_cons] at hT ⊢
      omega
    have htle := tp_le hT2 hI
    unfold m_Model_forEach_b136
    rw [ey, ob0_s, ck_n (by omega), cl_n (by omega), ob1_s]
    obtain ⟨b2, eb2⟩ : ∃ b2, b2 = svl b 122 r y := ⟨_, rfl⟩
    rw [← eb2]
    have hb2 : ∀ q, q ≠ 122 → b2 q = b q := fun q hq => by rw [eb2]; exact updB_ne hq
    have h122 : b2 122 r = y := by rw [eb2]; exact svl_at
    have h122n : ∀ q, q ≠ r → b2 122 q = b 122 q := fun q hq => by rw [eb2]; exact svl_ne hq
    obtain ⟨hu2, hw2⟩ := rWo_ab (a' := a) (b' := b2) hw (fun _ _ => rfl) (fun q hq => hb2 q (nm_ne hq (by decide)))
    have hrow2 : rRow a b2 B (x :: l :: R) := ⟨(fun h => by omega), fun _ => ⟨by rw [← hr]; exact h121, (tMem t)[k]'hkm, by rw [xo, xt, Nat.add_sub_cancel]; exact List.getElem?_eq_getElem hkm, by rw [← hr, h122]; exact (rV_up hu2 _).1 _ hy⟩, (fun h => by omega), rRow_up hu2 (l :: R) hrow (fun _ _ => ⟨rfl, rfl⟩) (fun q hq => ⟨rfl, h122n q (by omega)⟩) (fun q _ => by rw [hb2 123 (by decide)])⟩
    have hrun := hR i j a b2 B G N F x (l :: R) (base + (lVals x).length) v3 hN hI ⟨⟨hw2, hrow2, has, hpd⟩, hlc⟩ xw xn h102 h107 hT2 (by rw [xu]; exact (rV_up hu2 _).1 _ hv3) (by rw [lvW_0 xw]; simp only [List.length_cons] at hD ⊢; omega)
    rw [show decide (6 ≤ lK x) = mp by rw [xk]; cases mp <;> rfl] at hrun
    have hf2 : rFm i j a b i j a b2 := ⟨fun _ _ => rfl, fun _ _ => rfl, fun _ _ => rfl, fun q hq => hb2 q (nm_ne hq (by decide))⟩
    have hk2 : kT7 b0 b2 T := fun q hq => by rw [hb2 111 (by decide)]; exact hk7 q hq
    refine PG_bindL hrun (by omega) (by omega) (by omega) ht (rUp_trans hu hu2) (rFm_trans hfm hf2) hk2 (by omega) ?_ ?_
    · intro i' j' a' b' w B' gu gf g102 gz
      obtain ⟨G', N', F', x', got, z1, z2, z3, z4, z5, z6, z7, z8, z9, z10, z11, z12, z13⟩ := gz
      have xk' : lK x' = lK x := z2.1
      have xt' : lTurns x' = k + 1 := z2.2.2.2.1.trans xt
      have xo' : lOth x' = t := z2.2.2.2.2.1.trans xo
      have xu' : lLst x' = u := z2.2.2.2.2.2.1.trans xu
      have xl' : lLim x' = lLim x := z2.2.2.2.2.2.2.1
      have xv' : lVals x' = lVals x := z2.2.2.2.2.2.2.2
      have hto := To_trans ht z1
      have hto2 := To_trans hto (To2 (bd := bd) z5)
      have hv2 := iv_done (got := got) z7 z3
      have hd2 : nDone N0 ≤ nDone N' := Nat.le_trans hN0 (dn_To hto)
      have hu3 := rUp_trans (rUp_trans hu hu2) gu
      have hf3 := rFm_trans (rFm_trans hfm hf2) gf
      have hk3 : kT7 b0 b' T := kT7_trans hk2 z12 (by omega)
      have hm1 : ∀ q, nDone N' ≤ q → q < 20000 → 20000 - (q + 1) < m := fun q h1 h2 => by have : nDone N ≤ nDone N' := dn_To z1; omega
      have a121 : a' 121 r = nI (lvCalls (l :: R)) := by
        have := (z8.1.2.1.2.1 (by omega)).1
        rw [← hr] at this
        exact this
      obtain ⟨c5, c3⟩ := lvCn_5 (x := x') (L := l :: R) (by omega)
      have endl : ∀ (i2 : Nat → Int32) (G2 : GS) (B2 : RB4) (bb : Nat → Nat → Int64) (N2 : LN), rLc i2 (x' :: l :: R) → rLc (upd (upd i2 117 (nI r)) 97 (upd i2 117 (nI r) 97 - 1)) (l :: R) := by
        intro i2 _ _ _ _ hl2
        refine ⟨?_, ?_, ?_, ?_⟩
        · rw [upd_at, upd_ne (by decide), hl2.1, rI_pred (by simp) (by simp only [List.length_cons] at hlen ⊢; omega)]
          rfl
        · rw [upd_ne (by decide), upd_ne (by decide), hl2.2.1, lvW_0 z3]
        · rw [upd_ne (by decide), upd_ne (by decide), hl2.2.2.1, c3]
        · rw [upd_ne (by decide), upd_at, hr]
      have hqq : ∀ (i2 : Nat → Int32) (p : Int32) (q : Nat), q ≠ 117 → q ≠ 97 → upd (upd i2 117 (nI r)) 97 p q = i2 q := fun i2 p q h1 h2 => by rw [upd_ne h2, upd_ne h1]
      rw [if_pos g102]
      cases mp with
      | false =>
        have xk5 : lK x' = 5 := xk'.trans xk
        have hgn : got = none := z4 (by rw [xk]; decide)
        have xvn : lVals x = [] := lOk_vals hlo (by rw [xk]; decide)
        have ed : aDone G' N' F' x' (l :: R) got = if k + 1 < (tMem t).length then (G', N', F', x' :: l :: R, 4, none, none) else aLeave 1 G' N' F' (x' :: l :: R) none := by
          unfold aDone
          rw [if_neg (by omega), if_neg (by omega), if_pos xk5, xt', xo']
        rw [ed] at hto2
        rw [b1_f, if_pos (show nI 0 = (0 : Int32) from rfl)]
        unfold m_Model_forEach_b252
        rw [ob1_s, show nI k + (1 : Int32) = nI (k + 1) from nI_add k 1, m_Model_forEach_b113]
        rcases Nat.lt_or_ge (k + 1) (tMem t).length with c | c
        · rw [if_pos c] at hto2
          rw [ile_n (by omega), show (0 : Int32) = nI 0 from rfl, ile_n (by omega)]
          have hv4 : aInv2 (G', N', F', x' :: l :: R, 4, none, none) := iv_4 z7 (Or.inr (Or.inr ⟨Or.inl xk5, by rw [xt', xo']; exact c⟩))
          refine PG_beginsL (by omega) (by omega) (by omega) hto2 (Or.inr rfl) hv4 z5 z8 hu3 hf3 hk3 (fun i5 _ => ⟨3, by rw [if_pos (show (0 : Int32) = nI 0 from rfl)]⟩) ?_
          intro d1 d2 hto3
          rw [if_neg (show ¬ (1 : Int32) = nI 0 by decide)]
          have ea : aApply (G', N', F', x' :: l :: R, 4, none, none) = (G', nSetDone N' (nDone N' + 1), F', (lK x', lLst x', 0, lTurns x' + 1, lLim x', lOth x', lMark x', lTag x', lWs x', lVals x') :: l :: R, 0, none, none) := by
            show (G', nSetDone N' (nDone N' + 1), F', aTurnOn x' :: l :: R, 0, none, none) = _
            unfold aTurnOn
            rw [if_neg (by omega)]
          have hI4 := iv_apply hv4 z5 (Or.inr rfl) d1 (fun w hw9 => by cases hw9) (fun l9 R9 e9 h9 => by have := (List.cons.inj e9).1; subst this; rw [xo']; omega)
          have hw3 := rFull_93 z8 d1
          rw [ea] at hto3 hI4
          have hI3 := iv_of hI4
          have hih := ih (20000 - (nDone N' + 1)) (hm1 _ (Nat.le_refl _) d1) f _ j' a' b' B' G' _ F' _ (k + 1) rfl (by have := hm1 _ (Nat.le_refl _) d1; omega) hto3 z5 hI3 xk5 (by show lTurns x' + 1 = k + 1 + 1; omega) xo' xu' rfl z3 hw3.1.1 hw3.1.2.1.2.2.2 a121 hw3.1.2.2.1 hw3.1.2.2.2 hw3.2 ((upd_ne (by decide)).trans (z9.trans h105)) ((upd_ne (by decide)).trans (z10.trans h106)) ((upd_ne (by decide)).trans g102) ((upd_ne (by decide)).trans (by show _ = nI (base + (lVals x').length); rw [xv']; exact z11)) (fun q hq => by have hq : q < (lVals x').length := hq; rw [xv', xvn] at hq; exact absurd hq (Nat.not_lt_zero q)) ((rV_up (rUp_trans hu2 gu) _).1 _ hv1) ((rV_up (rUp_trans hu2 gu) _).1 _ hv3) hu3 (rFm_trans hf3 (rFm_i (by decide))) hk3 c
          rw [b1_f] at hih
          have e9 : lLim (lK x', lLst x', 0, lTurns x' + 1, lLim x', lOth x', lMark x', lTag x', lWs x', lVals x') = lLim x := xl'
          rw [e9] at hih
          exact hih
        · rw [if_neg (by omega), leave1] at hto2
          rw [ile_p (by omega), ob1_s, ob1_s, ob1_s, if_pos (show nI 0 = (0 : Int32) from rfl)]
          refine ⟨_, j', a', b', 3, B', rfl, hu3, rFm_trans hf3 (rFm_trans (rFm_i (k := 117) (by decide)) (rFm_i (by decide))), Or.inl ⟨(hqq i' _ 102 (by decide) (by decide)).trans g102, popG G' x', N', popF F' x', none, hto2, z5, hd2, IV_pop z7, ⟨rWk_i (rWk_pop z8.1 (by omega) (by omega) (by omega)) (fun q h9 => hqq i' _ q (fun h => by subst h; revert h9; decide) (fun h => by subst h; revert h9; decide)), endl i' G' B' b' N' z8.2⟩, rTop_ct hu3 ((hqq i' _ 105 (by decide) (by decide)).trans (z9.trans h105)) ((hqq i' _ 106 (by decide) (by decide)).trans (z10.trans h106)) htp, hk3, rfl⟩⟩
      | true =>
        have xk10 : lK x' = 10 := xk'.trans xk
        have ed : ∀ q, aDone G' N' F' x' (l :: R) q = aMapped G' N' F' x' (l :: R) q := fun q => by
          unfold aDone
          rw [if_neg (by omega), if_neg (by omega), if_neg (by omega), if_neg (by omega), if_neg (by omega), if_pos xk10]
        rw [ed] at hto2 hv2
        rw [b1_t, if_neg (show ¬ nI 1 = (0 : Int32) by decide)]
        have fail : ∀ e, e ≤ 13 → aMapped G' N' F' x' (l :: R) got = aFail e G' N' F' (x' :: l :: R) → ∀ w9, PG bd c1 l R T i0 j0 a0 b0 B0 (ZL bd c1 N0 l R T b0) (some (rFail i' e, j', a', b', w9)) := by
          intro e he hfl w9
          rw [hfl] at hto2
          exact PG_failL he (by omega) (by omega) (by omega) hto2 z5 z7 z8.1 hu3 hf3 hk3
        cases got with
        | none =>
          rw [if_pos (rO_none z13)]
          exact fail 4 (by decide) rfl 3
        | some tt =>
          have hlo' := IV_l z7
          obtain ⟨lim1, lim2⟩ := hlo'.2.2.2.2.2.2.2.2.2.1 xk10
          have hmade : nMade N' ≤ 30000 := z7.2.1.2.2.2.1
          have h96 : i' 96 = nI (nMade N') := z8.1.1.2.2.2.2.2.2.2.2.1.2.2
          have hsz : tSz tt ≤ 5000 := r_sz5 z13
          rw [if_neg (rO_some z13), r_sizeOf z13, ob0_s, ob1_s, nI_add, show (600 : Int32) = nI 600 from rfl]
          have eM : aMapped G' N' F' x' (l :: R) (some tt) = if 600 < lLim x' + tSz tt ∨ 30000 ≤ nMade N' then aFail 8 G' N' F' (x' :: l :: R) else if k + 1 < (tMem t).length then (G', nSetMade N' (nMade N' + 1), F', lSetMap x' (lLim x' + tSz tt) (lVals x' ++ [tt]) :: l :: R, 4, none, none) else aLeave 1 G' (nSetMade N' (nMade N' + 1)) F' (x' :: l :: R) (some (tL (lVals x' ++ [tt]))) := by
            show (if _ then _ else if lTurns x' < (tMem (lOth x')).length then _ else _) = _
            rw [xt', xo']
          rcases Nat.lt_or_ge 600 (lLim x + tSz tt) with c6 | c6
          · rw [ile_n (by omega), show (8 : Int32) = nI 8 from rfl, r_fails, om_s]
            exact fail 8 (by decide) (by rw [eM, if_pos (Or.inl (by omega))]) 3
          rw [ile_p (by omega), show (1 : Int32) = nI 1 from rfl, r_makes h96 hmade (by decide)]
          rcases Nat.lt_or_ge 30000 (nMade N' + 1) with c7 | c7
          · rw [if_pos c7, om_s, if_pos rfl]
            exact fail 8 (by decide) (by rw [eM, if_pos (Or.inr (by omega))]) 3
          rw [if_neg (by omega)] at eM
          rw [if_neg (by omega), om_s, if_neg (by decide)]
          obtain ⟨Tn, eTn⟩ : ∃ Tn, Tn = base + (lVals x).length := ⟨_, rfl⟩
          rw [← eTn] at z11 z12 htle
          have p107 : upd i' 96 (nI (nMade N' + 1)) 107 = nI Tn := (upd_ne (by decide)).trans z11
          rw [p107, ck_n (by omega), cl_n (by omega), ob1_s, ob1_s, ob1_s, nI_add]
          obtain ⟨b3, eb3⟩ : ∃ b3, b3 = svl b' 111 Tn w := ⟨_, rfl⟩
          obtain ⟨i3, ei3⟩ : ∃ i3, i3 = upd (upd i' 96 (nI (nMade N' + 1))) 107 (nI (Tn + 1)) := ⟨_, rfl⟩
          rw [← eb3, ← ei3]
          have hb3 : ∀ q, q ≠ 111 → b3 q = b' q := fun q hq => by rw [eb3]; exact updB_ne hq
          have h111 : b3 111 Tn = w := by rw [eb3]; exact svl_at
          have h111n : ∀ q, q ≠ Tn → b3 111 q = b' 111 q := fun q hq => by rw [eb3]; exact svl_ne hq
          have hi3 : ∀ q, q ≠ 96 → q ≠ 107 → i3 q = i' q := fun q h1 h2 => by rw [ei3, upd_ne h2, upd_ne h1]
          have i396 : i3 96 = nI (nMade N' + 1) := by rw [ei3, upd_ne (by decide), upd_at]
          have i3107 : i3 107 = nI (Tn + 1) := by rw [ei3, upd_at]
          have hwm : rWo i3 j' a' b' B' bd G' (nSetMade N' (nMade N' + 1)) F' := rWo_i (rWo_made (m := nMade N' + 1) z8.1.1 (Nat.le_succ _)) (fun q hq => by rw [ei3, upd_ne (fun e => by subst e; revert hq; decide)])
          obtain ⟨hu4, hw4⟩ := rWo_ab (a' := a') (b' := b3) hwm (fun _ _ => rfl) (fun q hq => hb3 q (nm_ne hq (by decide)))
          have hf4 : rFm i' j' a' b' i3 j' a' b3 := ⟨fun q hq => hi3 q (nm_ne hq (by decide)) (nm_ne hq (by decide)), fun _ _ => rfl, fun _ _ => rfl, fun q hq => hb3 q (nm_ne hq (by decide))⟩
          have hk4 : kT7 b0 b3 T := fun q hq => by rw [h111n q (by omega)]; exact hk3 q hq
          have hvals3 : ∀ q (h : q < (lVals x ++ [tt]).length), rV a' b3 B' ((lVals x ++ [tt])[q]'h) none (b3 111 (base + q)) := by
            intro q hq
            rw [List.length_append] at hq
            have hq : q < (lVals x).length + 1 := hq
            rcases Nat.lt_or_ge q (lVals x).length with c | c
            · rw [List.getElem_append_left c, h111n _ (by omega), z12 _ (by omega), hb2 111 (by decide)]
              exact (rV_up (rUp_trans (rUp_trans hu2 gu) hu4) _).1 _ (hvals q c)
            · have eq : q = (lVals x).length := by omega
              subst eq
              rw [List.getElem_concat_length rfl, ← eTn, h111]
              exact (rV_up hu4 _).1 _ z13
          have hrow3 : rRow a' b3 B' (x' :: l :: R) := rRow_up hu4 (x' :: l :: R) z8.1.2.1 (fun _ _ => ⟨rfl, rfl⟩) (fun q _ => ⟨rfl, by rw [hb3 122 (by decide)]⟩) (fun q _ => by rw [hb3 123 (by decide)])
          have has3 : rAs i3 G' (x' :: l :: R) := rAs_i z8.1.2.2.1 (hi3 118 (by decide) (by decide)) (hi3 103 (by decide) (by decide)) (hi3 104 (by decide) (by decide))
          have hlc3 : rLc i3 (x' :: l :: R) := rLc_i z8.2 (hi3 97 (by decide) (by decide)) (hi3 98 (by decide) (by decide)) (hi3 116 (by decide) (by decide)) (hi3 117 (by decide) (by decide))
          have hpd3 := z8.1.2.2.2
          unfold rPd at hpd3
          rw [lvPend, xv', if_pos xk10] at hpd3
          unfold m_Model_forEach_b252
          rw [ob1_s, show nI k + (1 : Int32) = nI (k + 1) from nI_add k 1, m_Model_forEach_b113]
          rcases Nat.lt_or_ge (k + 1) (tMem t).length with c | c
          · rw [if_pos c] at eM
            rw [eM] at hto2 hv2
            rw [ile_n (by omega), show (0 : Int32) = nI 0 from rfl, ile_n (by omega)]
            obtain ⟨x2, ex2⟩ : ∃ x2, x2 = lSetMap x' (lLim x' + tSz tt) (lVals x' ++ [tt]) := ⟨_, rfl⟩
            rw [← ex2] at hto2 hv2
            have x2k : lK x2 = 10 := by rw [ex2]; exact xk10
            have x2v : lVals x2 = lVals x ++ [tt] := by rw [ex2, ← xv']; rfl
            have x2t : lTurns x2 = k + 1 := by rw [ex2]; exact xt'
            have x2o : lOth x2 = t := by rw [ex2]; exact xo'
            have x2w : lWs x2 = [] := by rw [ex2]; exact z3
            have x2u : lLst x2 = u := by rw [ex2]; exact xu'
            have x2l : lLim x2 = lLim x + tSz tt := by rw [ex2, ← xl']; rfl
            have hwF : rFull i3 j' a' b3 B' bd G' (nSetMade N' (nMade N' + 1)) F' (x2 :: l :: R) := by
              refine ⟨⟨hw4, ?_, ?_, ?_⟩, ?_⟩
              · rw [ex2]; exact hrow3
              · rw [ex2]; exact has3
              · unfold rPd
                rw [lvPend, x2v, if_pos x2k, List.length_append]
                show _ ≤ 56000 + (nMade N' + 1) ∧ _ ≤ 56000 + (nMade N' + 1)
                simp only [List.length_cons, List.length_nil]
                omega
              · rw [ex2]; exact hlc3
            refine PG_beginsL (by omega) (by omega) (by omega) hto2 (Or.inr rfl) hv2 z5 hwF (rUp_trans hu3 hu4) (rFm_trans hf3 hf4) hk4 (fun i5 _ => ⟨3, by rw [if_pos (show (0 : Int32) = nI 0 from rfl)]⟩) ?_
            intro d1 d2 hto3
            rw [if_neg (show ¬ (1 : Int32) = nI 0 by decide)]
            obtain ⟨N3, eN3⟩ : ∃ N3, N3 = nSetMade N' (nMade N' + 1) := ⟨_, rfl⟩
            rw [← eN3] at d1 d2 hto3 hv2 hwF ⊢
            have eD3 : nDone N3 = nDone N' := by rw [eN3]; rfl
            have eS3 : nState N3 = 1 := by rw [eN3]; exact z5
            have ea : aApply (G', N3, F', x2 :: l :: R, 4, none, none) = (G', nSetDone N3 (nDone N3 + 1), F', (lK x2, lLst x2, 0, lTurns x2 + 1, lLim x2, lOth x2, lMark x2, lTag x2, lWs x2, lVals x2) :: l :: R, 0, none, none) := by
              show (G', nSetDone N3 (nDone N3 + 1), F', aTurnOn x2 :: l :: R, 0, none, none) = _
              unfold aTurnOn
              rw [if_neg (by omega)]
            have hI4 := iv_apply hv2 eS3 (Or.inr rfl) d1 (fun w hw9 => by cases hw9) (fun l9 R9 e9 h9 => by have := (List.cons.inj e9).1; subst this; rw [x2o]; omega)
            have hw3 := rFull_93 hwF d1
            rw [ea] at hto3 hI4
            have hI3 := iv_of hI4
            have hih := ih (20000 - (nDone N3 + 1)) (hm1 _ (by omega) d1) f _ j' a' b3 B' G' _ F' _ (k + 1) rfl (by have := hm1 (nDone N3) (by omega) d1; omega) hto3 eS3 hI3 x2k (by show lTurns x2 + 1 = k + 1 + 1; omega) x2o x2u rfl x2w hw3.1.1 hw3.1.2.1.2.2.2 a121 hw3.1.2.2.1 hw3.1.2.2.2 hw3.2 ((upd_ne (by decide)).trans ((hi3 105 (by decide) (by decide)).trans (z9.trans h105))) ((upd_ne (by decide)).trans ((hi3 106 (by decide) (by decide)).trans (z10.trans h106))) ((upd_ne (by decide)).trans ((hi3 102 (by decide) (by decide)).trans g102)) ((upd_ne (by decide)).trans (by show _ = nI (base + (lVals x2).length); rw [x2v, List.length_append, i3107, eTn]; rfl)) (fun q hq => by
              have hq : q < (lVals x2).length := hq
              have := hvals3 q (by rw [← x2v]; exact hq)
              simp only [← x2v] at this
              exact this) ((rV_up (rUp_trans (rUp_trans hu2 gu) hu4) _).1 _ hv1) ((rV_up (rUp_trans (rUp_trans hu2 gu) hu4) _).1 _ hv3) (rUp_trans hu3 hu4) (rFm_trans (rFm_trans hf3 hf4) (rFm_i (by decide))) hk4 c
            rw [b1_t] at hih
            have e9 : lLim (lK x2, lLst x2, 0, lTurns x2 + 1, lLim x2, lOth x2, lMark x2, lTag x2, lWs x2, lVals x2) = lLim x + tSz tt := x2l
            rw [e9] at hih
            exact hih
          · rw [if_neg (by omega)] at eM
            rw [eM, leave1] at hto2 hv2
            rw [ile_p (by omega), ob1_s, ob1_s, ob1_s, if_neg (show ¬ nI 1 = (0 : Int32) by decide)]
            obtain ⟨i4, ei4⟩ : ∃ i4, i4 = upd (upd i3 117 (nI r)) 97 (upd i3 117 (nI r) 97 - 1) := ⟨_, rfl⟩
            rw [← ei4]
            have hi4 : ∀ q, q ≠ 117 → q ≠ 97 → i4 q = i3 q := fun q h1 h2 => by rw [ei4]; exact hqq i3 _ q h1 h2
            have hlc4 : rLc i4 (l :: R) := by rw [ei4]; exact endl i3 G' B' b' N' hlc3
            have hvl : (lVals x ++ [tt]).length = (lVals x).length + 1 := by rw [List.length_append]; rfl
            obtain ⟨N3, eN3⟩ : ∃ N3, N3 = nSetMade N' (nMade N' + 1) := ⟨_, rfl⟩
            rw [← eN3] at hto2 hv2 hw4
            have eM3 : nMade N3 = nMade N' + 1 := by rw [eN3]; rfl
            have eS3 : nState N3 = 1 := by rw [eN3]; exact z5
            have eD3 : nDone N3 = nDone N' := by rw [eN3]; rfl
            have hwp : rWo i4 j' a' b3 B' bd (popG G' x') N3 (popF F' x') := by
              rw [popG_7 (by omega), popF_1 (by omega)]
              exact rWo_i hw4 (fun q hq => hi4 q (fun e => by subst e; revert hq; decide) (fun e => by subst e; revert hq; decide))
            obtain ⟨i5, a5, b5, v5, B5, k1, k2, k3', k4, ⟨k5a, k5b⟩, k6, k7', k8', k9⟩ := map_end (n := n) (g := g) (ms := lVals x ++ [tt]) (base := base) (pd := lvPend (l :: R)) hn hwp (by omega) (by rw [hi4 107 (by decide) (by decide), i3107, hvl, eTn]; rfl) (by omega) (by rw [eM3]; omega) (by rw [eM3, hvl]; omega) (by rw [tSz_snoc, ← xv', lim2]; omega) hvals3
            rw [k1]
            have hui5 := rUp_trans (rUp_trans hu3 hu4) k2
            have hqi : ∀ q, q ≠ 20 → q ≠ 21 → q ≠ 107 → q ≠ 117 → q ≠ 97 → q ≠ 96 → i5 q = i' q := fun q h1 h2 h3 h4 h5 h6 => (k7' q h1 h2 h3).trans ((hi4 q h4 h5).trans (hi3 q h6 h3))
            refine ⟨i5, j', a5, b5, v5, B5, rfl, hui5, rFm_trans (rFm_trans hf3 hf4) ⟨fun q hq => (k7' q (nm_ne hq (by decide)) (nm_ne hq (by decide)) (nm_ne hq (by decide))).trans (hi4 q (nm_ne hq (by decide)) (nm_ne hq (by decide))), fun _ _ => rfl, fun q hq => k8' q (nm_ne hq (by decide)) (nm_ne hq (by decide)) (nm_ne hq (by decide)), fun q hq => k9 q (nm_ne hq (by decide))⟩, Or.inl ⟨(hqi 102 (by decide) (by decide) (by decide) (by decide) (by decide) (by decide)).trans g102, popG G' x', N3, popF F' x', some (tL (lVals x' ++ [tt])), hto2, eS3, by omega, iv_of hv2, ⟨⟨k3', ?_, ?_, ?_⟩, ?_⟩, rTop_ct hui5 ((hqi 105 (by decide) (by decide) (by decide) (by decide) (by decide) (by decide)).trans (z9.trans h105)) ((hqi 106 (by decide) (by decide) (by decide) (by decide) (by decide) (by decide)).trans (z10.trans h106)) htp, fun q hq => by rw [k9 111 (by decide)]; exact hk4 q hq, by rw [xv']; exact k4⟩⟩
            · exact rRow_up k2 (l :: R) hrow3.2.2.2 (fun q _ => by rw [k8' 119 (by decide) (by decide) (by decide), k8' 120 (by decide) (by decide) (by decide)]; exact ⟨rfl, rfl⟩) (fun q _ => by rw [k8' 121 (by decide) (by decide) (by decide), k9 122 (by decide)]; exact ⟨rfl, rfl⟩) (fun q _ => by rw [k9 123 (by decide)])
            · rw [popG_7 (by omega)]
              exact rAs_i (rAs_pop z8.1.2.2.1 (by omega) (by omega)) (hqi 118 (by decide) (by decide) (by decide) (by decide) (by decide) (by decide)) (hqi 103 (by decide) (by decide) (by decide) (by decide) (by decide) (by decide)) (hqi 104 (by decide) (by decide) (by decide) (by decide) (by decide) (by decide))
            · unfold rPd
              rw [k5a, k5b, eM3, hvl]
              omega
            · exact rLc_i hlc4 (k7' 97 (by decide) (by decide) (by decide)) (k7' 98 (by decide) (by decide) (by decide)) (k7' 116 (by decide) (by decide) (by decide)) (k7' 117 (by decide) (by decide) (by decide))
    · intro i' j' a' b' w hne
      rw [if_neg hne]
      exact ⟨3, rfl⟩

