/-! ask and catch in the reference -/
theorem ob0_some_p {α β : Type} {o : Option α} {f : α → Option β} {r : β} (h : ob0 o f = some r) : ∃ x, o = some x ∧ f x = some r := by
  cases o with
  | none => cases h
  | some x => exact ⟨x, rfl, h⟩
theorem om_some_p {α : Type} {o : Option ((Nat → Int32) × (Nat → Int64) × (Nat → Nat → Int32) × (Nat → Nat → Int64) × Int64)} {f : (Nat → Int32) → (Nat → Int64) → (Nat → Nat → Int32) → (Nat → Nat → Int64) → Int64 → Option α} {r : α} (h : om o f = some r) : ∃ i j a b v, o = some (i, j, a, b, v) ∧ f i j a b v = some r := by
  cases o with
  | none => cases h
  | some x =>
    obtain ⟨i, j, a, b, v⟩ := x
    exact ⟨i, j, a, b, v, rfl, h⟩
theorem ck_some_p {α : Type} {k : Int32} {m : Nat} {o : Option α} {r : α} (h : ck k m o = some r) : o = some r := by
  unfold ck at h
  split at h
  · cases h
  · exact h
theorem runs116_105 {n : Nat} {g : GB} {i : Nat → Int32} {j : Nat → Int64} {a : Nat → Nat → Int32} {b : Nat → Nat → Int64} {v4 v5 : Int32} {v6 : Int64} {i' : Nat → Int32} {j' : Nat → Int64} {a' : Nat → Nat → Int32} {b' : Nat → Nat → Int64} {w : Int64} (h : m_Model_runs_b116 n g i j a b v4 v5 v6 = some (i', j', a', b', w)) (h1 : i' 102 ≠ 1) : i' 105 = v4 ∧ i' 106 = v5 := by
  unfold m_Model_runs_b116 at h
  split at h
  · next c =>
    have e := congrArg (fun z => z.1) (Option.some.inj h)
    dsimp only at e
    subst e
    exact absurd c h1
  · rw [ob1_s, ob1_s] at h
    have e : upd (upd i 105 v4) 106 v5 = i' := by
      split at h
      · exact congrArg (fun z => z.1) (Option.some.inj h)
      · exact congrArg (fun z => z.1) (Option.some.inj h)
    subst e
    exact ⟨by rw [upd_ne (by decide), upd_at], upd_at⟩
theorem runs30_105 {n : Nat} {g : GB} {v4 v5 : Int32} {i' : Nat → Int32} {j' : Nat → Int64} {a' : Nat → Nat → Int32} {b' : Nat → Nat → Int64} {w : Int64} : ∀ (f : Nat) (i : Nat → Int32) (j : Nat → Int64) (a : Nat → Nat → Int32) (b : Nat → Nat → Int64) (v3 : Int32) (v6 : Int64), m_Model_runs_b30 n g f i j a b v3 v4 v5 v6 = some (i', j', a', b', w) → i' 102 ≠ 1 → i' 105 = v4 ∧ i' 106 = v5 := by
  intro f
  induction f with
  | zero => intro i j a b v3 v6 h; cases h
  | succ f ih =>
    intro i j a b v3 v6 h h1
    rw [m_Model_runs_b30] at h
    split at h
    · have h := ck_some_p h
      split at h
      · exact runs116_105 h h1
      · obtain ⟨i2, j2, a2, b2, r, _, h⟩ := om_some_p h
        split at h
        · split at h
          · exact ih _ _ _ _ _ _ h h1
          · split at h
            · unfold m_Model_runs_b106 m_Model_runs_b113 at h
              obtain ⟨i3, j3, a3, b3, r3, _, h⟩ := om_some_p h
              exact ih _ _ _ _ _ _ h h1
            · have h := ck_some_p h
              split at h
              · unfold m_Model_runs_b113 at h
                exact ih _ _ _ _ _ _ h h1
              · unfold m_Model_runs_b106 m_Model_runs_b113 at h
                obtain ⟨i3, j3, a3, b3, r3, _, h⟩ := om_some_p h
                exact ih _ _ _ _ _ _ h h1
        · exact ih _ _ _ _ _ _ h h1
    · exact runs116_105 h h1
/-- what lists are read is as it was -/
def At105 (rn : (Nat → Int32) → (Nat → Int64) → (Nat → Nat → Int32) → (Nat → Nat → Int64) → Int64 → Int32 → Option ((Nat → Int32) × (Nat → Int64) × (Nat → Nat → Int32) × (Nat → Nat → Int64) × Int64)) : Prop := ∀ (i : Nat → Int32) (j : Nat → Int64) (a : Nat → Nat → Int32) (b : Nat → Nat → Int64) v s i' j' a' b' w, rn i j a b v s = some (i', j', a', b', w) → i' 102 ≠ 1 → i' 105 = i 105 ∧ i' 106 = i 106
theorem runs_105 (n : Nat) (g : GB) : At105 (m_Model_runs n g) := by
  intro i j a b v s i' j' a' b' w h h1
  unfold m_Model_runs at h
  rw [ob1_s, ob1_s] at h
  obtain ⟨r, _, h⟩ := ob0_some_p h
  rw [ob1_s, ob1_s] at h
  exact runs30_105 _ _ _ _ _ _ _ h h1
theorem ran_105 {n : Nat} {g : GB} (hg : At105 g.2.2.2.1) : At105 (m_Model_ran n g) := by
  intro i j a b v s i' j' a' b' w h h1
  unfold m_Model_ran at h
  rw [ob1_s, ob1_s] at h
  obtain ⟨i2, j2, a2, b2, r, e, h⟩ := om_some_p h
  have fin : ∀ z, upd i2 97 z = i' → i' 105 = i 105 ∧ i' 106 = i 106 := fun z ez => by
    subst ez
    rw [upd_ne (by decide)] at h1
    obtain ⟨g1, g2⟩ := hg _ _ _ _ _ _ _ _ _ _ _ e h1
    rw [upd_ne (by decide), upd_ne (by decide), g1, g2, upd_ne (by decide), upd_ne (by decide)]
    exact ⟨rfl, rfl⟩
  split at h
  · rw [ob1_s, ob1_s] at h
    exact fin _ (congrArg (fun z => z.1) (Option.some.inj h))
  · rw [ob1_s, ob1_s] at h
    exact fin _ (congrArg (fun z => z.1) (Option.some.inj h))
theorem rWo_told {i : Nat → Int32} {j : Nat → Int64} {a : Nat → Nat → Int32} {b : Nat → Nat → Int64} {i' : Nat → Int32} {B : RB4} {bd : Nat} {G : GS} {N : LN} {F : List Fr} {t : Nat} (h : rWo i j a b B bd G N F) (hi : ∀ q, q ∈ woI → q ≠ 47 → i' q = i q) (h47 : i' 47 = nI t) : rWo i' j a b B bd (gSetTold G t) N F := by
  obtain ⟨⟨w1, w2, w3⟩, w4, ⟨w5, w6, w7⟩, w8, ⟨w9, w10⟩, w11, ⟨w12, w13⟩, w14, ⟨w15, w16, w17⟩, w18, w19⟩ := id h
  have hu := rUp_refl (a := a) (b := b) (rWo_B h)
  have hi : ∀ q, q ∈ woI → (q == 47) = false → i' q = i q := fun q h1 h2 => hi q h1 (beq_eq_false_iff_ne.mp h2)
  exact ⟨⟨rB_i w1 (hi 18 (by decide) rfl) (hi 19 (by decide) rfl) (hi 20 (by decide) rfl) (hi 21 (by decide) rfl), w2, w3⟩, w4, ⟨w5, w6, (hi 99 (by decide) rfl).trans w7⟩, rGl_up hu (hi 36 (by decide) rfl) (fun _ _ => ⟨rfl, rfl⟩) w8, ⟨rPr_up hu (hi 33 (by decide) rfl) (fun _ _ => ⟨rfl, rfl, rfl⟩) (fun _ _ => rfl) w9, w10⟩, ⟨w11.1, w11.2.1, h47⟩, ⟨w12, w13⟩, (hi 46 (by decide) rfl).trans w14, ⟨(hi 93 (by decide) rfl).trans w15, (hi 95 (by decide) rfl).trans w16, (hi 96 (by decide) rfl).trans w17⟩, w18, w19⟩
theorem lvCn_7 {x : Lv} {L : List Lv} (h : lK x = 7) : lvCn k7 (x :: L) = lvCn k7 L + 1 ∧ lvCn k8 (x :: L) = lvCn k8 L := by
  rw [lvCn, lvCn, h]
  exact ⟨Nat.add_comm _ _, Nat.zero_add _⟩
theorem lvCn_8 {x : Lv} {L : List Lv} (h : lK x = 8) : lvCn k8 (x :: L) = lvCn k8 L + 1 ∧ lvCn k7 (x :: L) = lvCn k7 L := by
  rw [lvCn, lvCn, h]
  exact ⟨Nat.add_comm _ _, Nat.zero_add _⟩
/-- an asked level is left -/
theorem rWk_pop7 {i : Nat → Int32} {j : Nat → Int64} {a : Nat → Nat → Int32} {b : Nat → Nat → Int64} {B : RB4} {bd : Nat} {G : GS} {N : LN} {F : List Fr} {x : Lv} {L : List Lv} (h : rWk i j a b B bd G N F (x :: L)) (h7 : lK x = 7) (hL : L.length ≤ 150) : rWk (upd (upd i 103 (i 103 - 1)) 47 (nI (lMark x))) j a b B bd (popG G x) N (popF F x) L := by
  obtain ⟨c1, c2⟩ := lvCn_7 (L := L) h7
  obtain ⟨w, r, ⟨a1, a2, a3⟩, hpd⟩ := h
  have eg : popG G x = gSetTold G (lMark x) := by unfold popG; rw [if_pos h7]
  rw [eg, popF_1 (by omega)]
  rw [c2] at a1
  rw [c1] at a2 a3
  have hb := lvCn_le k7 L
  have hi : ∀ q, q ≠ 103 → q ≠ 47 → upd (upd i 103 (i 103 - 1)) 47 (nI (lMark x)) q = i q := fun q h1 h2 => by rw [upd_ne h2, upd_ne h1]
  refine ⟨rWo_told w (fun q hq hn => hi q (fun h => by subst h; revert hq; decide) hn) upd_at, r.2.2.2, ⟨(hi 118 (by decide) (by decide)).trans a1, ?_, fun hp => ?_⟩, rPd_pop hpd⟩
  · rw [upd_ne (by decide), upd_at, a2, rI_pred (by omega) (by omega)]
    rfl
  · rw [hi 104 (by decide) (by decide), a3 (by omega), lvTold, if_pos h7]
    rfl
theorem lvTold_0 : ∀ (L : List Lv) (t : Nat), lvCn k7 L = 0 → lvTold L t = t := by
  intro L
  induction L with
  | nil => intro t _; rfl
  | cons x L ih =>
    intro t h
    have c : lvCn k7 (x :: L) = (if k7 (lK x) then 1 else 0) + lvCn k7 L := rfl
    rw [lvTold]
    rcases Classical.em (lK x = 7) with e | e
    · rw [if_pos (by rw [e]; rfl)] at c; omega
    · rw [if_neg e]
      exact ih t (by omega)
/-- ask -/
theorem r_asked {n D : Nat} {i : Nat → Int32} {j : Nat → Int64} {a : Nat → Nat → Int32} {b : Nat → Nat → Int64} {B : RB4} {bd : Nat} {G : GS} {N : LN} {F : List Fr} {g : GB} (hR : RanS bd D g.2.2.1) {l : Lv} {R : List Lv} {T T' k : Nat} {u : Tr} {v : Int64} (hN : nState N = 1) (hI : IV (gSetTold G k) N F (lNew 7 u 1 .nil (gTold G) .nil :: l :: R)) (hw : rFull i j a b B bd G N F (l :: R)) (htp : rTop i a b B l) (h102 : i 102 = 0) (h107 : i 107 = nI T') (hTT : T ≤ T') (hT : tpOk T' (lNew 7 u 1 .nil (gTold G) .nil :: l :: R)) (hv : rV a b B u none v) (hD : 6 * (151 - (l :: R).length - 1) + (401 - lvWaits (l :: R)) + 2 ≤ D) : PG bd (gSetTold G k, N, F, lNew 7 u 1 .nil (gTold G) .nil :: l :: R, 0, none, none) l R T i j a b B (ZL bd (gSetTold G k, N, F, lNew 7 u 1 .nil (gTold G) .nil :: l :: R, 0, none, none) N l R T b) (m_Model_asked n g i j a b (nI k) v) := by
  obtain ⟨x, ex⟩ : ∃ x, x = lNew 7 u 1 .nil (gTold G) .nil := ⟨_, rfl⟩
  rw [← ex] at hI hT ⊢
  have xk : lK x = 7 := by rw [ex]; rfl
  have xm : lMark x = gTold G := by rw [ex]; rfl
  have xw : lWs x = [] := by rw [ex]; rfl
  have xn : lNx x = 0 := by rw [ex]; rfl
  have xl : lLst x = u := by rw [ex]; rfl
  have hL : (l :: R).length ≤ 150 := by have := hI.2.2.1.2.1; simp only [List.length_cons] at this ⊢; omega
  obtain ⟨c1, c2⟩ := lvCn_7 (L := l :: R) xk
  obtain ⟨a1, a2, a3⟩ := hw.1.2.2.1
  have h47 : i 47 = nI (gTold G) := hw.1.1.2.2.2.2.2.1.2.2
  have hb7 := lvCn_le k7 (l :: R)
  have core : ∀ i1 : Nat → Int32, (∀ q, q ≠ 104 → i1 q = i q) → i1 104 = nI (lvTold (l :: R) (gTold G)) → PG bd (gSetTold G k, N, F, x :: l :: R, 0, none, none) l R T i j a b B (ZL bd (gSetTold G k, N, F, x :: l :: R, 0, none, none) N l R T b) (m_Model_asked_b19 n g i1 j a b (nI k) v (i 47)) := by
    intro i1 hi1 h104
    unfold m_Model_asked_b19
    rw [ob1_s, ob1_s, ob1_s]
    obtain ⟨i2, e2⟩ : ∃ i2, i2 = upd (upd i1 103 (i1 103 + 1)) 47 (nI k) := ⟨_, rfl⟩
    rw [← e2]
    have q2 : ∀ q, q ≠ 103 → q ≠ 47 → q ≠ 104 → i2 q = i q := fun q h1 h2 h3 => by rw [e2, upd_ne h2, upd_ne h1]; exact hi1 q h3
    have p103 : i2 103 = nI (lvCn k7 (l :: R) + 1) := by
      rw [e2, upd_ne (by decide), upd_at, hi1 103 (by decide), a2]
      exact nI_add _ 1
    have p104 : i2 104 = nI (lvTold (l :: R) (gTold G)) := by rw [e2, upd_ne (by decide), upd_ne (by decide)]; exact h104
    have p47 : i2 47 = nI k := by rw [e2, upd_at]
    have hw2 : rWk i2 j a b B bd (gSetTold G k) N F (x :: l :: R) := ⟨rWo_told hw.1.1 (fun q hq hn => q2 q (fun h => by subst h; revert hq; decide) hn (fun h => by subst h; revert hq; decide)) p47, ⟨(fun h => by omega), (fun h => by omega), (fun h => by omega), hw.1.2.1⟩, ⟨by rw [q2 118 (by decide) (by decide) (by decide), c2]; exact a1, by rw [p103, c1], fun _ => by rw [p104]; show _ = nI (lvTold (l :: R) (if lK x = 7 then lMark x else k)); rw [if_pos xk, xm]⟩, rPd_push hw.1.2.2.2 (by rw [ex]; rfl) (by omega)⟩
    have hl2 : rLc i2 (l :: R) := rLc_i hw.2 (q2 97 (by decide) (by decide) (by decide)) (q2 98 (by decide) (by decide) (by decide)) (q2 116 (by decide) (by decide) (by decide)) (q2 117 (by decide) (by decide) (by decide))
    obtain ⟨i', j', a', b', w, B', e1, gu, gf, e4⟩ := hR i2 j a b B (gSetTold G k) N F x l R T' v hN hI hw2 hl2 (by omega) (by omega) (by omega) xw xn ((q2 102 (by decide) (by decide) (by decide)).trans h102) ((q2 107 (by decide) (by decide) (by decide)).trans h107) hT (by rw [xl]; exact hv) (by simp only [List.length_cons] at hD ⊢; omega)
    rw [show decide (6 ≤ lK x) = true by rw [xk]; rfl, b1_t] at e1
    rw [show (1 : Int32) = nI 1 from rfl, e1, om_s]
    have gf0 : rFm i j a b i' j' a' b' := rFm_trans ⟨fun q hq => q2 q (nm_ne hq (by decide)) (nm_ne hq (by decide)) (nm_ne hq (by decide)), fun _ _ => rfl, fun _ _ => rfl, fun _ _ => rfl⟩ gf
    rcases e4 with ⟨e4, G', N', F', x', got, z1, z2, z3, z4, z5, z6, z7, z8, z8', z9, z10, z11, z12, z13⟩ | e4 | e4
    · rw [if_neg (by rw [e4]; decide), ob1_s, ob1_s, ob1_s]
      have xm' : nI (lMark x') = i 47 := by rw [z2.2.2.1, xm, h47]
      have hp := rWk_pop7 z8 (z2.1.trans xk) hL
      rw [xm'] at hp
      have hi : ∀ q, q ≠ 103 → q ≠ 47 → upd (upd i' 103 (i' 103 - nI 1)) 47 (i 47) q = i' q := fun q h1 h2 => by rw [upd_ne h2, upd_ne h1]
      refine ⟨_, j', a', b', w, B', rfl, gu, rFm_trans gf0 (rFm_trans (rFm_i (k := 103) (by decide)) (rFm_i (by decide))), Or.inl ⟨(hi 102 (by decide) (by decide)).trans e4, popG G' x', N', popF F' x', got, ?_, z5, z6, IV_pop z7, ⟨hp, rLc_i z8' (hi 97 (by decide) (by decide)) (hi 98 (by decide) (by decide)) (hi 116 (by decide) (by decide)) (hi 117 (by decide) (by decide))⟩, rTop_ct gu ((hi 105 (by decide) (by decide)).trans (z9.trans (q2 105 (by decide) (by decide) (by decide)))) ((hi 106 (by decide) (by decide)).trans (z10.trans (q2 106 (by decide) (by decide) (by decide)))) htp, fun q hq => z12 q (by omega), z13⟩⟩
      have ed : aDone G' N' F' x' (l :: R) got = aLeave 1 G' N' F' (x' :: l :: R) got := by
        unfold aDone
        have := z2.1
        rw [if_neg (by omega), if_neg (by omega), if_neg (by omega), if_neg (by omega), if_neg (by omega), if_neg (by omega)]
      rw [← leave1, ← ed]
      exact To_trans z1 (To2 z5)
    · obtain ⟨c', g1, g2⟩ := e4
      rw [if_pos (show i' 102 = nI 1 from g1)]
      exact ⟨i', j', a', b', _, B', rfl, gu, gf0, Or.inr (Or.inl ⟨c', g1, g2⟩)⟩
    · rw [if_neg (show ¬ i' 102 = nI 1 from (pLv_102 e4).2), ob1_s, ob1_s, ob1_s]
      obtain ⟨G', N', F', x', lv, e, t, g1, g2, ⟨s1, s2, s3, s4⟩, g4, g5, g6, g7, g8, g9⟩ := e4
      have xm' : nI (lMark x') = i 47 := by rw [g5.2.2.1, xm, h47]
      have hp := rWk_pop7 g8 (g5.1.trans xk) hL
      rw [xm'] at hp
      have hi : ∀ q, q ≠ 103 → q ≠ 47 → upd (upd i' 103 (i' 103 - nI 1)) 47 (i 47) q = i' q := fun q h1 h2 => by rw [upd_ne h2, upd_ne h1]
      obtain ⟨p1, p2⟩ := aLV_pop (g := G') (n := N') (F := F') g2 (noC_k (lv := lv) (t := t) (x := x') (by have := g5.1; omega) (by have := g5.1; omega))
      rw [p1] at g4
      refine ⟨_, j', a', b', _, B', rfl, gu, rFm_trans gf0 (rFm_trans (rFm_i (k := 103) (by decide)) (rFm_i (by decide))), Or.inr (Or.inr ⟨popG G' x', N', popF F' x', l, lv, e, t, (hi 102 (by decide) (by decide)).trans g1, p2, ⟨fun h => (hi 126 (by decide) (by decide)).trans (s1 h), s2, s3, fun h => (hi 126 (by decide) (by decide)).trans (s4 h)⟩, g4, sameL_refl l, g6, IV_pop g7, hp, fun q hq => g9 q (by omega)⟩)⟩
  unfold m_Model_asked
  rw [ob1_s]
  rcases Nat.eq_zero_or_pos (lvCn k7 (l :: R)) with c | c
  · rw [if_pos (by rw [a2, c]; rfl), ob1_s]
    exact core _ (fun q hq => upd_ne hq) (by rw [upd_at, h47, lvTold_0 _ _ c])
  · rw [if_neg (fun h => by rw [a2] at h; have := (nI_eq (by omega) (by omega)).mp (show nI (lvCn k7 (l :: R)) = nI 0 from h); omega)]
    exact core i (fun _ _ => rfl) (a3 c)

