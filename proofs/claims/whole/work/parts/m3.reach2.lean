/-! foreach and map, from their begin -/
theorem r_each {n D : Nat} {i : Nat → Int32} {j : Nat → Int64} {a : Nat → Nat → Int32} {b : Nat → Nat → Int64} {B : RB4} {bd : Nat} {G : GS} {N : LN} {F : List Fr} {g : GB} (hn : 100000 ≤ n) (hR : RunsS bd D g.2.2.2.1) {l : Lv} {R : List Lv} {T T' : Nat} {t u : Tr} {mp : Bool} {v1 v3 : Int64} {c0 : Cfg} (hc0 : c0 = if mp = true ∧ 30000 ≤ nMade N then aFail 8 G N F (l :: R) else if tMem t = [] then (G, (if mp then nSetMade N (nMade N + 1) else N), F, l :: R, 1, (if mp then some (tL []) else none), none) else if 150 ≤ (l :: R).length then aFail 6 G N F (l :: R) else (G, (if mp then nSetMade N (nMade N + 1) else N), F, lNew (if mp then 10 else 5) u 1 t 0 .nil :: l :: R, 0, none, none)) (hN : nState N = 1) (hv0 : aInv2 c0) (hI : IV G N F (l :: R)) (hw : rFull i j a b B bd G N F (l :: R)) (htp : rTop i a b B l) (h102 : i 102 = 0) (h107 : i 107 = nI T') (hTT : T ≤ T') (hT : T' ≤ 10 * lvWaits (l :: R) + 10 * ((l :: R).length + 1) + mapVals (l :: R)) (htl : isL t = true) (hv1 : rV a b B t none v1) (hv3 : rV a b B u none v3) (hD : 6 * (151 - (l :: R).length - 1) + (401 - lvWaits (l :: R)) + 1 ≤ D) : PG bd c0 l R T i j a b B (ZL bd c0 N l R T b) (m_Model_forEach n g i j a b v1 v3 (b1 mp)) := by
  have h97 : i 97 = nI (l :: R).length := hw.2.1
  have h96 : i 96 = nI (nMade N) := hw.1.1.2.2.2.2.2.2.2.2.1.2.2
  have hmade : nMade N ≤ 30000 := hI.2.1.2.2.2.1
  have hlen := hI.2.2.1.2.1
  have tml := r_isL_eq hv1 htl
  have hv1' := hv1
  rw [tml] at hv1'
  have hml : (tMem t).length ≤ 90000 := r_len5 hv1'
  have hT36 : T' ≤ 35600 := by
    have h2 := hI.2.2.1.2.2.1
    have h3 := hI.2.2.1.2.2.2.1
    omega
  obtain ⟨N1, eN1⟩ : ∃ N1, N1 = (if mp then nSetMade N (nMade N + 1) else N) := ⟨_, rfl⟩
  rw [← eN1] at hc0
  have n1d : nDone N1 = nDone N := by rw [eN1]; cases mp <;> rfl
  have n1s : nState N1 = 1 := by rw [eN1]; cases mp <;> exact hN
  have core : ¬ (mp = true ∧ 30000 ≤ nMade N) → (tMem t = [] ∨ (l :: R).length < 150) → PG bd c0 l R T i j a b B (ZL bd c0 N l R T b) (m_Model_forEach_b45 n g i j a b v1 v3 (b1 mp) (nI (tMem t).length)) := by
    intro hm8 hcase
    have n1m : nMade N1 = nMade N + (if mp then 1 else 0) := by rw [eN1]; cases mp <;> rfl
    have hN1m : nMade N1 ≤ 30000 := by
      rw [n1m]
      cases mp with
      | false => exact hmade
      | true =>
        have : ¬ 30000 ≤ nMade N := fun h => hm8 ⟨rfl, h⟩
        show nMade N + 1 ≤ 30000
        omega
    obtain ⟨r, hr⟩ : ∃ r, r = lvCn k5 (l :: R) := ⟨_, rfl⟩
    have hr9 : r ≤ 150 := by rw [hr]; have := lvCn_le k5 (l :: R); omega
    have h117 : i 117 = nI r := by rw [hr]; exact hw.2.2.2.2
    have h99 : i 99 = nI F.length := hw.1.1.2.2.1.2.2
    have hFl : F.length = lvCalls (l :: R) := hI.2.2.1.2.2.2.2.1
    obtain ⟨a2, ea2⟩ : ∃ a2, a2 = sv a 121 r (nI F.length) := ⟨_, rfl⟩
    have ha2 : ∀ q, q ≠ 121 → a2 q = a q := fun q hq => by rw [ea2]; exact updA_ne hq
    have h121 : a2 121 r = nI (lvCalls (l :: R)) := by rw [ea2, ← hFl]; exact sv_at
    have h121n : ∀ q, q ≠ r → a2 121 q = a 121 q := fun q hq => by rw [ea2]; exact sv_ne hq
    obtain ⟨i2, ei2⟩ : ∃ i2, i2 = upd (upd (upd i 96 (nI (nMade N1))) 117 (nI (r + 1))) 97 (nI ((l :: R).length + 1)) := ⟨_, rfl⟩
    have q2 : ∀ q, q ≠ 96 → q ≠ 117 → q ≠ 97 → i2 q = i q := fun q h1 h2 h3 => by rw [ei2, upd_ne h3, upd_ne h2, upd_ne h1]
    have i296 : i2 96 = nI (nMade N1) := by rw [ei2, upd_ne (by decide), upd_ne (by decide), upd_at]
    have e45 : m_Model_forEach_b45 n g i j a b v1 v3 (b1 mp) (nI (tMem t).length) = m_Model_forEach_b113 n g n i2 j a2 b v1 v3 (b1 mp) (nI (tMem t).length) (nI T') 1 (nI r) 0 := by
      have hs0 : ∀ s0 : Int32, nI (nMade N) + s0 = nI (nMade N1) → m_Model_forEach_b60 n g i j a b v1 v3 (b1 mp) (nI (tMem t).length) s0 (nI (nMade N)) = m_Model_forEach_b113 n g n i2 j a2 b v1 v3 (b1 mp) (nI (tMem t).length) (nI T') 1 (nI r) 0 := by
        intro s0 hs
        unfold m_Model_forEach_b60
        have p1 : upd i 96 (nI (nMade N1)) 117 = nI r := (upd_ne (by decide)).trans h117
        have p2 : upd i 96 (nI (nMade N1)) 99 = nI F.length := (upd_ne (by decide)).trans h99
        have p3 : upd i 96 (nI (nMade N1)) 107 = nI T' := (upd_ne (by decide)).trans h107
        have p4 : upd (upd i 96 (nI (nMade N1))) 117 (nI (r + 1)) 97 = nI (l :: R).length := (upd_ne (by decide)).trans ((upd_ne (by decide)).trans h97)
        simp only [ob1_s, hs, p1, p2, p3]
        rw [ck_n (by omega), cl_n (by omega), show nI r + (1 : Int32) = nI (r + 1) from nI_add r 1, p4, show nI (l :: R).length + (1 : Int32) = nI ((l :: R).length + 1) from nI_add _ 1, ← ei2, ← ea2]
      unfold m_Model_forEach_b45
      rw [h96]
      cases mp with
      | false =>
        rw [b1_f, if_pos (show nI 0 = (0 : Int32) from rfl)]
        exact hs0 0 (by rw [n1m]; exact Int32.add_zero _)
      | true =>
        rw [b1_t, if_neg (show ¬ nI 1 = (0 : Int32) by decide)]
        exact hs0 1 (by rw [n1m]; exact nI_add _ 1)
    rw [e45]
    have hwN : rWo (upd i 96 (nI (nMade N1))) j a b B bd G N1 F := by
      cases mp with
      | false =>
        have : upd i 96 (nI (nMade N1)) = i := by
          rw [n1m]
          funext q
          unfold upd
          split
          · next h => rw [h, h96]; rfl
          · rfl
        rw [this, eN1]
        exact hw.1.1
      | true =>
        rw [eN1]
        exact rWo_made hw.1.1 (Nat.le_succ _)
    obtain ⟨hu2, hw2⟩ := rWo_ab (a' := a2) (b' := b) hwN (fun q hq => ha2 q (nm_ne hq (by decide))) (fun _ _ => rfl)
    have hw3 : rWo i2 j a2 b B bd G N1 F := rWo_i hw2 (fun q hq => by rw [ei2, upd_ne (fun e => by subst e; revert hq; decide), upd_ne (fun e => by subst e; revert hq; decide)])
    have hrow2 : rRow a2 b B (l :: R) := rRow_up hu2 (l :: R) hw.1.2.1 (fun q _ => by rw [ha2 119 (by decide), ha2 120 (by decide)]; exact ⟨rfl, rfl⟩) (fun q hq => ⟨h121n q (by omega), rfl⟩) (fun _ _ => rfl)
    have hf2 : rFm i j a b i2 j a2 b := ⟨fun q hq => q2 q (nm_ne hq (by decide)) (nm_ne hq (by decide)) (nm_ne hq (by decide)), fun _ _ => rfl, fun q hq => ha2 q (nm_ne hq (by decide)), fun _ _ => rfl⟩
    have hpd := hw.1.2.2.2
    unfold rPd at hpd
    rw [if_neg hm8] at hc0
    obtain ⟨n, rfl⟩ : ∃ n', n = n' + 1 := ⟨n - 1, by omega⟩
    rw [m_Model_forEach_b113]
    rcases Classical.em (tMem t = []) with c | c
    · rw [if_pos c] at hc0
      rw [c, show (([] : List Tr).length) = 0 from rfl, if_pos (by decide), ob1_s, ob1_s, ob1_s]
      obtain ⟨i4, ei4⟩ : ∃ i4, i4 = upd (upd i2 117 (nI r)) 97 (upd i2 117 (nI r) 97 - 1) := ⟨_, rfl⟩
      rw [← ei4]
      have q4 : ∀ q, q ≠ 117 → q ≠ 97 → i4 q = i2 q := fun q h1 h2 => by rw [ei4, upd_ne h2, upd_ne h1]
      have q5 : ∀ q, q ≠ 96 → i4 q = i q := fun q h1 => by
        rcases Classical.em (q = 97) with e | e
        · subst e
          rw [ei4, upd_at, upd_ne (by decide), ei2, upd_at, h97, rI_pred (by omega) (by omega)]
          rfl
        · rcases Classical.em (q = 117) with e2 | e2
          · subst e2
            rw [ei4, upd_ne (by decide), upd_at, h117]
          · exact (q4 q e2 e).trans (q2 q h1 e2 e)
      have hw5 : rWo i4 j a2 b B bd G N1 F := rWo_i hw3 (fun q hq => q4 q (fun e => by subst e; revert hq; decide) (fun e => by subst e; revert hq; decide))
      have hlc5 : rLc i4 (l :: R) := rLc_i hw.2 (q5 97 (by decide)) (q5 98 (by decide)) (q5 116 (by decide)) (q5 117 (by decide))
      have has5 : rAs i4 G (l :: R) := rAs_i hw.1.2.2.1 (q5 118 (by decide)) (q5 103 (by decide)) (q5 104 (by decide))
      have hf5 : rFm i j a b i4 j a2 b := ⟨fun q hq => q5 q (nm_ne hq (by decide)), fun _ _ => rfl, fun q hq => ha2 q (nm_ne hq (by decide)), fun _ _ => rfl⟩
      have hI1 : IV G N1 F (l :: R) := by
        rw [hc0] at hv0
        exact iv_of hv0
      cases mp with
      | false =>
        rw [b1_f, if_pos (show nI 0 = (0 : Int32) from rfl)]
        have n1m' : nMade N1 = nMade N := n1m
        rw [hc0]
        refine ⟨i4, j, a2, b, 3, B, rfl, hu2, hf5, Or.inl ⟨(q5 102 (by decide)).trans h102, G, N1, F, none, To_refl, n1s, by omega, hI1, ⟨⟨hw5, hrow2, has5, by unfold rPd; omega⟩, hlc5⟩, rTop_ct hu2 (q5 105 (by decide)) (q5 106 (by decide)) htp, kT7_refl, rfl⟩⟩
      | true =>
        rw [b1_t, if_neg (show ¬ nI 1 = (0 : Int32) by decide)]
        have n1m' : nMade N1 = nMade N + 1 := n1m
        obtain ⟨i5, a5, b5, v5, B5, k1, k2, k3', k4, ⟨k5a, k5b⟩, k6, k7', k8', k9⟩ := map_end (n := n + 1) (g := g) (ms := []) (base := T') (pd := lvPend (l :: R)) (by omega) hw5 hN1m ((q5 107 (by decide)).trans h107) (by show T' + 0 ≤ 36000; omega) (by omega) (by show B.2.2.2 + 0 + _ ≤ _; omega) (by decide) (fun q h => absurd h (Nat.not_lt_zero q))
        rw [k1, hc0]
        have hu5 := rUp_trans hu2 k2
        have q6 : ∀ q, q ≠ 96 → q ≠ 20 → q ≠ 21 → q ≠ 107 → i5 q = i q := fun q h1 h2 h3 h4 => (k7' q h2 h3 h4).trans (q5 q h1)
        refine ⟨i5, j, a5, b5, v5, B5, rfl, hu5, rFm_trans hf5 ⟨fun q hq => k7' q (nm_ne hq (by decide)) (nm_ne hq (by decide)) (nm_ne hq (by decide)), fun _ _ => rfl, fun q hq => k8' q (nm_ne hq (by decide)) (nm_ne hq (by decide)) (nm_ne hq (by decide)), fun q hq => k9 q (nm_ne hq (by decide))⟩, Or.inl ⟨(q6 102 (by decide) (by decide) (by decide) (by decide)).trans h102, G, N1, F, some (tL []), To_refl, n1s, by omega, hI1, ⟨⟨k3', ?_, rAs_i hw.1.2.2.1 (q6 118 (by decide) (by decide) (by decide) (by decide)) (q6 103 (by decide) (by decide) (by decide) (by decide)) (q6 104 (by decide) (by decide) (by decide) (by decide)), ?_⟩, rLc_i hw.2 (q6 97 (by decide) (by decide) (by decide) (by decide)) (q6 98 (by decide) (by decide) (by decide) (by decide)) (q6 116 (by decide) (by decide) (by decide) (by decide)) (q6 117 (by decide) (by decide) (by decide) (by decide))⟩, rTop_ct hu5 (q6 105 (by decide) (by decide) (by decide) (by decide)) (q6 106 (by decide) (by decide) (by decide) (by decide)) htp, fun q _ => by rw [k9 111 (by decide)], k4⟩⟩
        · exact rRow_up k2 (l :: R) hrow2 (fun q _ => by rw [k8' 119 (by decide) (by decide) (by decide), k8' 120 (by decide) (by decide) (by decide)]; exact ⟨rfl, rfl⟩) (fun q _ => by rw [k8' 121 (by decide) (by decide) (by decide), k9 122 (by decide)]; exact ⟨rfl, rfl⟩) (fun q _ => by rw [k9 123 (by decide)])
        · have k5b' : B5.2.2.2 = B.2.2.2 + 0 := k5b
          unfold rPd
          omega
    · have hl150 : (l :: R).length < 150 := hcase.resolve_left c
      have hpos : 0 < (tMem t).length := Nat.pos_of_ne_zero (fun e => c (List.length_eq_zero_iff.mp e))
      rw [if_neg c, if_neg (by omega)] at hc0
      rw [hc0] at hv0
      rw [show (0 : Int32) = nI 0 from rfl, ile_n (by omega), ile_p (by omega)]
      obtain ⟨x, ex⟩ : ∃ x, x = lNew (if mp then 10 else 5) u 1 t 0 .nil := ⟨_, rfl⟩
      rw [← ex] at hv0 hc0
      have xk : lK x = (if mp then 10 else 5) := by rw [ex]; rfl
      have xk2 : lK x = 5 ∨ lK x = 10 := by rw [xk]; cases mp <;> simp
      have xv : lVals x = [] := by rw [ex]; rfl
      have xw : lWs x = [] := by rw [ex]; rfl
      obtain ⟨c5, c3⟩ := lvCn_5 (x := x) (L := l :: R) xk2
      have := each_l (n := n + 1) (mp := mp) (N0 := N) (c1 := c0) (T := T) (base := T') (i0 := i) (j0 := j) (a0 := a) (b0 := b) (B0 := B) (t := t) (u := u) (v1 := v1) (v3 := v3) (r := r) hn hR (by rw [hc0]; show nDone N ≤ nDone N1; omega) hr htp hTT htl hD hT (20000 - nDone N1) n i2 j a2 b B G N1 F x 0 rfl (by omega) (by rw [hc0]; exact To_refl) n1s (iv_of hv0) xk (by rw [ex]; rfl) (by rw [ex]; rfl) (by rw [ex]; rfl) (by rw [ex]; rfl) xw hw3 hrow2 h121 (rAs_push (rAs_i hw.1.2.2.1 (q2 118 (by decide) (by decide) (by decide)) (q2 103 (by decide) (by decide) (by decide)) (q2 104 (by decide) (by decide) (by decide))) (by omega) (by omega)) (by
        unfold rPd
        rw [lvPend, xv, n1m, xk]
        cases mp with
        | false => simp only [List.length_nil]; show B.2.2.1 + (0 + 0 + _) ≤ 56000 + (_ + 0) ∧ B.2.2.2 + (0 + 0 + _) ≤ 56000 + (_ + 0); omega
        | true => simp only [List.length_nil]; show B.2.2.1 + (0 + 1 + _) ≤ 56000 + (_ + 1) ∧ B.2.2.2 + (0 + 1 + _) ≤ 56000 + (_ + 1); omega) ⟨by rw [ei2, upd_at]; rfl, by rw [q2 98 (by decide) (by decide) (by decide), lvW_0 xw]; exact hw.2.2.1, by rw [q2 116 (by decide) (by decide) (by decide), c3]; exact hw.2.2.2.1, by rw [ei2, upd_ne (by decide), upd_at, c5, hr]⟩ (q2 105 (by decide) (by decide) (by decide)) (q2 106 (by decide) (by decide) (by decide)) ((q2 102 (by decide) (by decide) (by decide)).trans h102) (by rw [xv, q2 107 (by decide) (by decide) (by decide), h107]; rfl) (fun q h => by rw [xv] at h; exact absurd h (Nat.not_lt_zero q)) ((rV_up hu2 _).1 _ hv1) ((rV_up hu2 _).1 _ hv3) hu2 hf2 kT7_refl hpos
      rw [show lLim x = 1 by rw [ex]; rfl] at this
      exact this
  have b29 : ¬ (mp = true ∧ 30000 ≤ nMade N) → PG bd c0 l R T i j a b B (ZL bd c0 N l R T b) (m_Model_forEach_b29 n g i j a b v1 v3 (b1 mp) (nI (tMem t).length)) := by
    intro hm8
    unfold m_Model_forEach_b29
    rcases Classical.em (tMem t = []) with c | c
    · have := core hm8 (Or.inl c)
      rw [c] at this ⊢
      rw [if_pos (by decide)]
      exact this
    · have hpos : 0 < (tMem t).length := Nat.pos_of_ne_zero (fun e => c (List.length_eq_zero_iff.mp e))
      rw [show (0 : Int32) = nI 0 from rfl, ile_n (by omega)]
      unfold m_Model_hasLevel
      rw [h97, show (150 : Int32) = nI 150 from rfl]
      rcases (by omega : (l :: R).length = 150 ∨ (l :: R).length < 150) with d | d
      · rw [ieq_p (by omega), show (6 : Int32) = nI 6 from rfl, r_fails, om_s, om_s, if_pos (show (0 : Int32) = nI 0 from rfl)]
        rw [if_neg hm8, if_neg c, if_pos (by omega)] at hc0
        rw [hc0]
        exact PG_fail (by decide) To_refl (sameL_refl l) hN hI hw.1 (rUp_refl (rWo_B hw.1.1)) rFm_refl kT7_refl
      · rw [ieq_n (by omega), om_s, if_neg (by decide)]
        exact core hm8 (Or.inr d)
  unfold m_Model_forEach
  have es := r_size (n := n) (i := i) (j := j) hv1'
  rw [es, ob0_s]
  cases mp with
  | false =>
    rw [b1_f, if_pos (show nI 0 = (0 : Int32) from rfl)]
    exact b29 (fun h => by cases h.1)
  | true =>
    rw [b1_t, if_neg (show ¬ nI 1 = (0 : Int32) by decide), h96, show (30000 : Int32) = nI 30000 from rfl]
    rcases (by omega : nMade N = 30000 ∨ nMade N < 30000) with d | d
    · rw [ieq_p (by omega), show (8 : Int32) = nI 8 from rfl, r_fails, om_s]
      rw [if_pos ⟨rfl, by omega⟩] at hc0
      rw [hc0]
      exact PG_fail (by decide) To_refl (sameL_refl l) hN hI hw.1 (rUp_refl (rWo_B hw.1.1)) rFm_refl kT7_refl
    · rw [ieq_n (by omega)]
      exact b29 (fun h => by omega)

