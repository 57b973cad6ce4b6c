/-! a level is opened and left in the reference -/
theorem leave1 {G : GS} {N : LN} {F : List Fr} {x : Lv} {L : List Lv} {got : Option Tr} : aLeave 1 G N F (x :: L) got = (popG G x, N, popF F x, L, 1, got, none) := by
  rw [leave_pop]; rfl
theorem IV_pop {G : GS} {N : LN} {F : List Fr} {x l : Lv} {R : List Lv} (h : IV G N F (x :: l :: R)) : IV (popG G x) N (popF F x) (l :: R) := by
  have h1 := iv_leave (k := 1) (got := none) h (fun hs => lvBot_tl (h.2.2.2 hs) (by simp))
  rw [leave1] at h1
  exact iv_of h1
theorem popG_7 {G : GS} {x : Lv} (h : lK x ≠ 7) : popG G x = G := by unfold popG; rw [if_neg h]; rfl
theorem popF_1 {F : List Fr} {x : Lv} (h : lK x ≠ 1) : popF F x = F := by unfold popF; rw [if_neg h]; rfl
theorem rAs_pop {i : Nat → Int32} {G : GS} {x : Lv} {L : List Lv} (h : rAs i G (x :: L)) (h7 : lK x ≠ 7) (h8 : lK x ≠ 8) : rAs i G L := by
  obtain ⟨h1, h2, h3⟩ := h
  rw [lvCn, if_neg (by unfold k8; simp; omega), Nat.zero_add] at h1
  rw [lvCn, if_neg (by unfold k7; simp; omega), Nat.zero_add] at h2 h3
  rw [lvTold, if_neg h7] at h3
  exact ⟨h1, h2, h3⟩
theorem rAs_push {i : Nat → Int32} {G : GS} {x : Lv} {L : List Lv} (h : rAs i G L) (h7 : lK x ≠ 7) (h8 : lK x ≠ 8) : rAs i G (x :: L) := by
  unfold rAs
  rw [lvCn, if_neg (by unfold k8; simp; omega), Nat.zero_add, lvCn, if_neg (by unfold k7; simp; omega), Nat.zero_add, lvTold, if_neg h7]
  exact h
/-- a plain level is left -/
theorem rWk_pop {i : Nat → Int32} {j : Nat → Int64} {a : Nat → Nat → Int32} {b : Nat → Nat → Int64} {B : RB4} {bd : Nat} {G : GS} {N : LN} {F : List Fr} {x : Lv} {L : List Lv} (h : rWk i j a b B bd G N F (x :: L)) (h1 : lK x ≠ 1) (h7 : lK x ≠ 7) (h8 : lK x ≠ 8) : rWk i j a b B bd (popG G x) N (popF F x) L := by
  rw [popG_7 h7, popF_1 h1]
  exact ⟨h.1, h.2.1.2.2.2, rAs_pop h.2.2.1 h7 h8, rPd_pop h.2.2.2⟩
theorem noC_k {lv : Nat} {t : Tr} {x : Lv} (h1 : lK x ≠ 1) (h8 : lK x ≠ 8) : lvNo lv t x := by
  refine ⟨fun _ => ?_, fun _ => ?_, fun _ => ?_⟩
  · unfold isErr; rw [beq_eq_false_iff_ne.mpr h8]; rfl
  · unfold isTag; rw [beq_eq_false_iff_ne.mpr h8]; rfl
  · unfold isCall; exact beq_eq_false_iff_ne.mpr h1
/-- leaving goes through a plain level -/
theorem pLv_pop {i : Nat → Int32} {j : Nat → Int64} {a : Nat → Nat → Int32} {b : Nat → Nat → Int64} {B : RB4} {bd : Nat} {c0 : Cfg} {x l : Lv} {R : List Lv} {b0 : Nat → Nat → Int64} {T : Nat} (h : pLv i j a b B bd c0 x (l :: R) b0 T) (h1 : lK x ≠ 1) (h7 : lK x ≠ 7) (h8 : lK x ≠ 8) : pLv i j a b B bd c0 l R b0 T := by
  obtain ⟨G', N', F', x', lv, e, t, g1, g2, g3, g4, g5, g6, g7, g8, g9⟩ := h
  have ek := g5.1
  obtain ⟨p1, p2⟩ := aLV_pop (g := G') (n := N') (F := F') g2 (noC_k (lv := lv) (t := t) (x := x') (by rw [ek]; exact h1) (by rw [ek]; exact h8))
  rw [p1] at g4
  exact ⟨popG G' x', N', popF F' x', l, lv, e, t, g1, p2, g3, g4, sameL_refl l, g6, IV_pop g7, rWk_pop g8 (by rw [ek]; exact h1) (by rw [ek]; exact h7) (by rw [ek]; exact h8), g9⟩
/-- a level has been run to its end -/
def ZL (bd : Nat) (c0 : Cfg) (N0 : LN) (l : Lv) (R : List Lv) (T : Nat) (b0 : Nat → Nat → Int64) (i : Nat → Int32) (j : Nat → Int64) (a : Nat → Nat → Int32) (b : Nat → Nat → Int64) (v : Int64) (B : RB4) : Prop := ∃ G' N' F' got, To bd c0 (G', N', F', l :: R, 1, got, none) ∧ nState N' = 1 ∧ nDone N0 ≤ nDone N' ∧ IV G' N' F' (l :: R) ∧ rFull i j a b B bd G' N' F' (l :: R) ∧ rTop i a b B l ∧ kT7 b0 b T ∧ rO a b B got v
/-- ran, at this depth -/
def RanS (bd : Nat) (D : Nat) (rn : (Nat → Int32) → (Nat → Int64) → (Nat → Nat → Int32) → (Nat → Nat → Int64) → Int64 → Int32 → Option ((Nat → Int32) × (Nat → Int64) × (Nat → Nat → Int32) × (Nat → Nat → Int64) × Int64)) : Prop := ∀ (i : Nat → Int32) (j : Nat → Int64) (a : Nat → Nat → Int32) (b : Nat → Nat → Int64) (B : RB4) (G : GS) (N : LN) (F : List Fr) (x l : Lv) (R : List Lv) (T : Nat) (v : Int64), nState N = 1 → IV G N F (x :: l :: R) → rWk i j a b B bd G N F (x :: l :: R) → rLc i (l :: R) → lK x ≠ 3 → lK x ≠ 5 → lK x ≠ 10 → lWs x = [] → lNx x = 0 → i 102 = 0 → i 107 = nI T → tpOk T (x :: l :: R) → rV a b B (lLst x) none v → 6 * (151 - (x :: l :: R).length) + (401 - lvWaits (l :: R)) + 2 ≤ D → PG bd (G, N, F, x :: l :: R, 0, none, none) x (l :: R) T i j a b B (fun i' j' a' b' w B' => ∃ G' N' F' x' got, To bd (G, N, F, x :: l :: R, 0, none, none) (G', N', F', x' :: l :: R, 2, got, none) ∧ sameL x x' ∧ lWs x' = [] ∧ (lK x < 6 → got = none) ∧ nState N' = 1 ∧ nDone N ≤ nDone N' ∧ IV G' N' F' (x' :: l :: R) ∧ rWk i' j' a' b' B' bd G' N' F' (x' :: l :: R) ∧ rLc i' (l :: R) ∧ i' 105 = i 105 ∧ i' 106 = i 106 ∧ i' 107 = nI T ∧ kT7 b b' T ∧ rO a' b' B' got w) (rn i j a b v (b1 (decide (6 ≤ lK x))))
theorem rLc_push {i : Nat → Int32} {x : Lv} {L : List Lv} (h : rLc i L) (h3 : lK x ≠ 3) (h5 : lK x ≠ 5) (h10 : lK x ≠ 10) (hw : lWs x = []) (hL : L.length ≤ 150) : rLc (upd i 97 (i 97 + 1)) (x :: L) := by
  obtain ⟨h1, h2, h4, h6⟩ := h
  refine ⟨?_, ?_, ?_, ?_⟩
  · rw [upd_at, h1]
    exact nI_add _ 1
  · rw [upd_ne (by decide), h2, lvWaits, hw]
    exact congrArg nI (Nat.zero_add _).symm
  · rw [upd_ne (by decide), h4, lvCn, if_neg (by unfold k3; simp; omega), Nat.zero_add]
  · rw [upd_ne (by decide), h6, lvCn, if_neg (by unfold k5; simp; omega), Nat.zero_add]
theorem rLc_pop {i : Nat → Int32} {x : Lv} {L : List Lv} (h : rLc i (x :: L)) (h3 : lK x ≠ 3) (h5 : lK x ≠ 5) (h10 : lK x ≠ 10) (hw : lWs x = []) (hL : L.length ≤ 150) : rLc (upd i 97 (i 97 - 1)) L := by
  obtain ⟨h1, h2, h4, h6⟩ := h
  refine ⟨?_, ?_, ?_, ?_⟩
  · rw [upd_at, h1, rI_pred (by simp) (by simp; omega)]
    rfl
  · rw [upd_ne (by decide), h2, lvWaits, hw]
    exact congrArg nI (Nat.zero_add _)
  · rw [upd_ne (by decide), h4, lvCn, if_neg (by unfold k3; simp; omega), Nat.zero_add]
  · rw [upd_ne (by decide), h6, lvCn, if_neg (by unfold k5; simp; omega), Nat.zero_add]
theorem upd_97 {i : Nat → Int32} : upd i 97 (i 97 - 0) = i := by
  funext q
  unfold upd
  split
  · next h => rw [h]; exact Int32.sub_zero _
  · rfl
theorem RanS_of {n bd D : Nat} {g : GB} (hR : RunsS bd D g.2.2.2.1) : RanS bd (D + 1) (m_Model_ran n g) := by
  intro i j a b B G N F x l R T v hN hI hw hlc h3 h5 h10 hws hnx h102 h107 hT hv hD
  have hL : (l :: R).length ≤ 150 := by
    have := hI.2.2.1.2.1
    simp only [List.length_cons] at this ⊢
    omega
  have hwt : lvWaits (x :: l :: R) = lvWaits (l :: R) := by rw [lvWaits, hws]; exact Nat.zero_add _
  unfold m_Model_ran
  rw [ob1_s, ob1_s]
  have := hR (upd i 97 (i 97 + 1)) j a b B G N F x (l :: R) T v hN hI ⟨rWk_i hw (fun q hq => upd_ne (fun h => by subst h; revert hq; decide)), rLc_push hlc h3 h5 h10 hws hL⟩ hws hnx (by rw [upd_ne (by decide)]; exact h102) (by rw [upd_ne (by decide)]; exact h107) hT hv (by rw [hwt]; omega)
  refine PG_bind2 this To_refl (sameL_refl x) (rUp_refl (rWo_B hw.1)) (rFm_i (by decide)) kT7_refl (Nat.le_refl _) ?_ ?_
  · intro i' j' a' b' w B' gu gf g102 gz
    obtain ⟨G', N', F', x', got, z1, z2, z3, z4, z5, z6, z7, z8, z9, z10, z11, z12, z13⟩ := gz
    rw [if_neg (by rw [g102]; decide), ob1_s, ob1_s]
    have hi : ∀ q, q ≠ 97 → upd i' 97 (i' 97 - 1) q = i' q := fun q hq => upd_ne hq
    refine ⟨_, j', a', b', w, B', rfl, gu, rFm_trans (rFm_trans (rFm_i (k := 97) (by decide)) gf) (rFm_i (by decide)), Or.inl ⟨(hi 102 (by decide)).trans g102, G', N', F', x', got, z1, z2, z3, z4, z5, z6, z7, rWk_i z8.1 (fun q hq => hi q (fun h => by subst h; revert hq; decide)), rLc_pop z8.2 (by rw [z2.1]; exact h3) (by rw [z2.1]; exact h5) (by rw [z2.1]; exact h10) z3 hL, (hi 105 (by decide)).trans (z9.trans (upd_ne (by decide))), (hi 106 (by decide)).trans (z10.trans (upd_ne (by decide))), (hi 107 (by decide)).trans z11, z12, z13⟩⟩
  · intro i' j' a' b' w hne
    rcases Classical.em (i' 102 = 1) with c | c
    · rw [if_pos c, ob1_s, ob1_s, upd_97]
      exact ⟨i', w, rfl, fun _ => rfl, fun _ _ => rfl⟩
    · rw [if_neg c, ob1_s, ob1_s]
      exact ⟨_, w, rfl, fun h => absurd h c, fun q hq => upd_ne (nm_ne hq (by decide))⟩
/-- a level of a plain kind, which gives what its list gives: 2 and 6 -/
theorem ran_plain {D : Nat} {i : Nat → Int32} {j : Nat → Int64} {a : Nat → Nat → Int32} {b : Nat → Nat → Int64} {B : RB4} {bd : Nat} {G : GS} {N : LN} {F : List Fr} {rn : (Nat → Int32) → (Nat → Int64) → (Nat → Nat → Int32) → (Nat → Nat → Int64) → Int64 → Int32 → Option ((Nat → Int32) × (Nat → Int64) × (Nat → Nat → Int32) × (Nat → Nat → Int64) × Int64)} (hR : RanS bd D rn) {x l : Lv} {R : List Lv} {T T' : Nat} {v : Int64} {s : Int32} (hN : nState N = 1) (hI : IV G N F (x :: l :: R)) (hw : rFull i j a b B bd G N F (l :: R)) (htp : rTop i a b B l) (hk : lK x = 2 ∨ lK x = 6) (hws : lWs x = []) (hnx : lNx x = 0) (h102 : i 102 = 0) (h107 : i 107 = nI T') (hTT : T ≤ T') (hT : tpOk T' (x :: l :: R)) (hv : rV a b B (lLst x) none v) (hs : s = b1 (decide (6 ≤ lK x))) (hD : 6 * (151 - (x :: l :: R).length) + (401 - lvWaits (l :: R)) + 2 ≤ D) : PG bd (G, N, F, x :: l :: R, 0, none, none) l R T i j a b B (ZL bd (G, N, F, x :: l :: R, 0, none, none) N l R T b) (rn i j a b v s) := by
  subst hs
  have hrw : rWk i j a b B bd G N F (x :: l :: R) := ⟨hw.1.1, ⟨(fun h => by omega), (fun h => by omega), (fun h => by omega), hw.1.2.1⟩, rAs_push hw.1.2.2.1 (by omega) (by omega), rPd_push hw.1.2.2.2 ((IV_l hI).2.2.2.2.2.2.2.2.2.2.1 (by omega)) (by omega)⟩
  obtain ⟨i', j', a', b', w, B', e1, e2, e3, e4⟩ := hR i j a b B G N F x l R T' v hN hI hrw hw.2 (by omega) (by omega) (by omega) hws hnx h102 h107 hT hv hD
  refine ⟨i', j', a', b', w, B', e1, e2, e3, ?_⟩
  rcases e4 with ⟨e4, G', N', F', x', got, z1, z2, z3, z4, z5, z6, z7, z8, z8', z9, z10, z11, z12, z13⟩ | e4 | e4
  · refine Or.inl ⟨e4, popG G' x', N', popF F' x', got, ?_, z5, z6, IV_pop z7, ⟨rWk_pop z8 (by rw [z2.1]; omega) (by rw [z2.1]; omega) (by rw [z2.1]; omega), z8'⟩, rTop_ct e2 z9 z10 htp, fun k hk9 => z12 k (by omega), z13⟩
    have ed : aDone G' N' F' x' (l :: R) got = aLeave 1 G' N' F' (x' :: l :: R) got := by
      unfold aDone
      have := z2.1
      rw [if_neg (by omega), if_neg (by omega), if_neg (by omega), if_neg (by omega), if_neg (by omega), if_neg (by omega)]
    rw [← leave1, ← ed]
    exact To_trans z1 (To2 z5)
  · exact Or.inr (Or.inl e4)
  · exact Or.inr (Or.inr (pLv_pop (pLv_pre e4 To_refl (sameL_refl x) kT7_refl hTT) (by omega) (by omega) (by omega)))

