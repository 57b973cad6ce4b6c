/-! a list is run in the reference -/
theorem To0 {bd : Nat} {G : GS} {N : LN} {F : List Fr} {l : Lv} {R : List Lv} {got : Option Tr} {rd : Option Wt} (h : nState N = 1) : To bd (G, N, F, l :: R, 0, got, rd) (aMeet G N F l R) := To_micro (c := (G, N, F, l :: R, 0, got, rd)) h (by show 0 < 3; decide)
theorem To1 {bd : Nat} {G : GS} {N : LN} {F : List Fr} {l : Lv} {R : List Lv} {got : Option Tr} {rd : Option Wt} (h : nState N = 1) : To bd (G, N, F, l :: R, 1, got, rd) (aSettle G N F l R got) := To_micro (c := (G, N, F, l :: R, 1, got, rd)) h (by show 1 < 3; decide)
theorem To2 {bd : Nat} {G : GS} {N : LN} {F : List Fr} {l : Lv} {R : List Lv} {got : Option Tr} {rd : Option Wt} (h : nState N = 1) : To bd (G, N, F, l :: R, 2, got, rd) (aDone G N F l R got) := To_micro (c := (G, N, F, l :: R, 2, got, rd)) h (by show 2 < 3; decide)
def lsI : List Nat := [97, 98, 105, 106, 107, 116, 117]
theorem pLv_i {i : Nat → Int32} {j : Nat → Int64} {a : Nat → Nat → Int32} {b : Nat → Nat → Int64} {i' : Nat → Int32} {B : RB4} {bd : Nat} {c0 : Cfg} {l : Lv} {R : List Lv} {b0 : Nat → Nat → Int64} {T : Nat} (h : pLv i j a b B bd c0 l R b0 T) (hi : ∀ q, q ∉ lsI → i' q = i q) : pLv i' j a b B bd c0 l R b0 T := by
  obtain ⟨G', N', F', l', lv, e, t, h1, h2, ⟨s1, s2, s3, s4⟩, h4, h5, h6, h7, h8, h9⟩ := h
  exact ⟨G', N', F', l', lv, e, t, (hi 102 (by decide)).trans h1, h2, ⟨fun e => (hi 126 (by decide)).trans (s1 e), s2, s3, fun e => (hi 126 (by decide)).trans (s4 e)⟩, h4, h5, h6, h7, rWk_i h8 (fun q hq => hi q ((show ∀ q ∈ woI ++ [118, 103, 104], q ∉ lsI by decide) q hq)), h9⟩
theorem pLv_102 {i : Nat → Int32} {j : Nat → Int64} {a : Nat → Nat → Int32} {b : Nat → Nat → Int64} {B : RB4} {bd : Nat} {c0 : Cfg} {l : Lv} {R : List Lv} {b0 : Nat → Nat → Int64} {T : Nat} (h : pLv i j a b B bd c0 l R b0 T) : i 102 ≠ 0 ∧ i 102 ≠ 1 := by
  obtain ⟨G', N', F', l', lv, e, t, g1, g2, _⟩ := h
  have h2 := g2.1
  have h6 := g2.2.1
  rw [g1]
  constructor
  · intro hc
    have := (nI_eq (by omega) (by omega)).mp (show nI lv = nI 0 from hc)
    omega
  · intro hc
    have := (nI_eq (by omega) (by omega)).mp (show nI lv = nI 1 from hc)
    omega
theorem PG_bind2 {bd : Nat} {c0 c1 : Cfg} {l l1 : Lv} {R : List Lv} {T T' : Nat} {i : Nat → Int32} {j : Nat → Int64} {a : Nat → Nat → Int32} {b : Nat → Nat → Int64} {i0 : Nat → Int32} {j0 : Nat → Int64} {a0 : Nat → Nat → Int32} {b0 : Nat → Nat → Int64} {B B0 : RB4} {Z Z' : (Nat → Int32) → (Nat → Int64) → (Nat → Nat → Int32) → (Nat → Nat → Int64) → Int64 → RB4 → Prop} {o : Option ((Nat → Int32) × (Nat → Int64) × (Nat → Nat → Int32) × (Nat → Nat → Int64) × Int64)} {K : (Nat → Int32) → (Nat → Int64) → (Nat → Nat → Int32) → (Nat → Nat → Int64) → Int64 → Option ((Nat → Int32) × (Nat → Int64) × (Nat → Nat → Int32) × (Nat → Nat → Int64) × Int64)} (h : PG bd c0 l R T' i j a b B Z o) (ht : To bd c1 c0) (hs : sameL l1 l) (hu : rUp a0 b0 B0 a b B) (hf : rFm i0 j0 a0 b0 i j a b) (hk7 : kT7 b0 b T) (hT : T ≤ T') (h0 : ∀ i' j' a' b' v B', rUp a b B a' b' B' → rFm i j a b i' j' a' b' → i' 102 = 0 → Z i' j' a' b' v B' → PG bd c1 l1 R T i0 j0 a0 b0 B0 Z' (K i' j' a' b' v)) (h1 : ∀ i' j' a' b' v, i' 102 ≠ 0 → ∃ i2 w, K i' j' a' b' v = some (i2, j', a', b', w) ∧ (i' 102 = 1 → i2 = i') ∧ ∀ q, q ∉ lsI → i2 q = i' q) : PG bd c1 l1 R T i0 j0 a0 b0 B0 Z' (om o K) := by
  obtain ⟨i', j', a', b', v, B', e1, e2, e3, e4⟩ := h
  rw [e1, om_s]
  rcases e4 with ⟨e4, e5⟩ | e4 | e4
  · exact h0 i' j' a' b' v B' e2 e3 e4 e5
  · have hne : i' 102 = 1 := by
      obtain ⟨c', g1, _⟩ := e4
      exact g1
    obtain ⟨i2, w, ew, ei, _⟩ := h1 i' j' a' b' v (by rw [hne]; decide)
    rw [ei hne] at ew
    exact ⟨i', j', a', b', w, B', ew, rUp_trans hu e2, rFm_trans hf e3, Or.inr (Or.inl (pStd_pre e4 ht))⟩
  · obtain ⟨i2, w, ew, _, ei⟩ := h1 i' j' a' b' v (pLv_102 e4).1
    exact ⟨i2, j', a', b', w, B', ew, rUp_trans hu e2, rFm_trans hf (rFm_trans e3 ⟨fun q hq => ei q (fun hm => hq ((show ∀ q ∈ lsI, q ∈ chI by decide) q hm)), fun _ _ => rfl, fun _ _ => rfl, fun _ _ => rfl⟩), Or.inr (Or.inr (pLv_i (pLv_pre e4 ht hs hk7 hT) ei))⟩
def tpOk (T : Nat) (L : List Lv) : Prop := T ≤ 10 * lvWaits L + 10 * L.length + mapVals L
theorem tp_le {T : Nat} {G : GS} {N : LN} {F : List Fr} {L : List Lv} (h : tpOk T L) (hI : IV G N F L) : T ≤ 35500 := by
  have h1 := hI.2.2.1.2.1
  have h2 := hI.2.2.1.2.2.1
  have h3 := hI.2.2.1.2.2.2.1
  have h4 := hI.2.1.2.2.2.1
  unfold tpOk at h
  omega
/-- eval, at this depth -/
def EvalS (bd : Nat) (D : Nat) (ev : (Nat → Int32) → (Nat → Int64) → (Nat → Nat → Int32) → (Nat → Nat → Int64) → Int32 → Option ((Nat → Int32) × (Nat → Int64) × (Nat → Nat → Int32) × (Nat → Nat → Int64) × Int64)) : Prop := ∀ (i : Nat → Int32) (j : Nat → Int64) (a : Nat → Nat → Int32) (b : Nat → Nat → Int64) (B : RB4) (G : GS) (N : LN) (F : List Fr) (l : Lv) (R : List Lv) (T : Nat), nState N = 1 → IV G N F (l :: R) → rFull i j a b B bd G N F (l :: R) → rTop i a b B l → i 102 = 0 → i 107 = nI T → tpOk T (l :: R) → (lWs l = [] → lNx l < (tMem (lLst l)).length) → 6 * (151 - (l :: R).length) + (401 - lvWaits (l :: R)) ≤ D → PG bd (G, N, F, l :: R, 0, none, none) l R T i j a b B (ZE bd (G, N, F, l :: R, 0, none, none) l R T b (fun l' => lWs l' = lWs l ∧ lNx l < lNx l' ∧ (∀ s, aSign l' = some s → aStrength s ≤ wsStr (lWs l)))) (ev i j a b (nI (wsStr (lWs l))))
/-- runs, at this depth -/
def RunsS (bd : Nat) (D : Nat) (rn : (Nat → Int32) → (Nat → Int64) → (Nat → Nat → Int32) → (Nat → Nat → Int64) → Int64 → Int32 → Option ((Nat → Int32) × (Nat → Int64) × (Nat → Nat → Int32) × (Nat → Nat → Int64) × Int64)) : Prop := ∀ (i : Nat → Int32) (j : Nat → Int64) (a : Nat → Nat → Int32) (b : Nat → Nat → Int64) (B : RB4) (G : GS) (N : LN) (F : List Fr) (l : Lv) (R : List Lv) (T : Nat) (v : Int64), nState N = 1 → IV G N F (l :: R) → rFull i j a b B bd G N F (l :: R) → lWs l = [] → lNx l = 0 → i 102 = 0 → i 107 = nI T → tpOk T (l :: R) → rV a b B (lLst l) none v → 6 * (151 - (l :: R).length) + (401 - lvWaits (l :: R)) + 1 ≤ D → PG bd (G, N, F, l :: R, 0, none, none) l R T i j a b B (ZR bd (G, N, F, l :: R, 0, none, none) l R T i b) (rn i j a b v (b1 (decide (6 ≤ lK l))))
theorem aSign_1 {l : Lv} {s : Nat} (h : aSign l = some s) : s ≤ 6 ∧ 1 ≤ aStrength s := by
  unfold aSign at h
  split at h
  · cases h
  · split at h
    · next hc =>
      have : s = _ := (Option.some.inj h).symm
      have hs : s ≤ 6 := by omega
      refine ⟨hs, ?_⟩
      rcases (by omega : s = 0 ∨ s = 1 ∨ s = 2 ∨ s = 3 ∨ s = 4 ∨ s = 5 ∨ s = 6) with h | h | h | h | h | h | h <;> (rw [h]; decide)
    · cases h
theorem rListAt {a : Nat → Nat → Int32} {b : Nat → Nat → Int64} {B : RB4} {t : Tr} {x : Nat} (h : rV a b B t none (vL x)) (ht : isL t = true) (hx : x < 1000000) : x < 90000 ∧ a 13 x = nI (tMem t).length ∧ (tMem t).length ≤ 90000 ∧ ∃ p, a 12 x = nI p ∧ p + (tMem t).length ≤ 90000 ∧ ∀ k (hk : k < (tMem t).length), rV a b B ((tMem t)[k]'hk) none (b 10 (p + k)) := by
  have e := r_isL_eq h ht
  rw [e] at h
  obtain ⟨l, p, h1, ⟨g1, g2, g3, g4, g5, g6, g7, g8⟩, h3⟩ := rV_tL.mp h
  have hx : x = l := by
    have := (v_ne (x := 4 * (x : Int) + 2) (y := 4 * (l : Int) + 2) (by omega) (by omega)).mp h1
    omega
  subst hx
  exact ⟨by omega, g5, by omega, p, g4, by omega, h3⟩
/-- the sign of no more than this strength isn't taken -/
theorem settle_no {G : GS} {N : LN} {F : List Fr} {l : Lv} {R : List Lv} {got : Option Tr} (h : ∀ s, aSign l = some s → aStrength s ≤ wsStr (lWs l)) : aSettle G N F l R got = aInner G N F l R got := by
  unfold aSettle
  cases hs : aSign l with
  | none => rfl
  | some s =>
    dsimp only
    rw [if_neg (by have := h s hs; omega)]
theorem rO_none {a : Nat → Nat → Int32} {b : Nat → Nat → Int64} {B : RB4} {v : Int64} (h : rO a b B none v) : lg_cmp v 3 = 0 := by
  have h : v = 3 := h
  rw [h]; decide
theorem rO_some {a : Nat → Nat → Int32} {b : Nat → Nat → Int64} {B : RB4} {t : Tr} {v : Int64} (h : rO a b B (some t) v) : ¬ lg_cmp v 3 = 0 := rV_no3 h
theorem IV_l {G : GS} {N : LN} {F : List Fr} {l : Lv} {R : List Lv} (h : IV G N F (l :: R)) : lOk l := h.2.2.1.1 l List.mem_cons_self
theorem st_aFin {st e : Nat} {g : GS} {n : LN} {L : List Lv} : nState (aFinish st e g n L).2.1 = st := rfl
/-- what runs does when it leaves -/
theorem runs_lv {n : Nat} {g : GB} {i : Nat → Int32} {j : Nat → Int64} {a : Nat → Nat → Int32} {b : Nat → Nat → Int64} {v3 v4 v5 : Int32} {v6 : Int64} {f : Nat} (h : i 102 ≠ 0) : ∃ i2 w, m_Model_runs_b30 n g (f + 1) i j a b v3 v4 v5 v6 = some (i2, j, a, b, w) ∧ (i 102 = 1 → i2 = i) ∧ ∀ q, q ∉ lsI → i2 q = i q := by
  rw [m_Model_runs_b30, if_neg h]
  unfold m_Model_runs_b116
  rcases Classical.em (i 102 = 1) with c | c
  · rw [if_pos c]
    exact ⟨i, _, rfl, fun _ => rfl, fun _ _ => rfl⟩
  · rw [if_neg c, ob1_s, ob1_s]
    have e : upd (upd i 105 v4) 106 v5 102 = i 102 := by rw [upd_ne (by decide), upd_ne (by decide)]
    rw [e, if_neg h]
    exact ⟨_, _, rfl, fun h1 => absurd h1 c, fun q hq => by rw [upd_ne (nm_ne hq (by decide)), upd_ne (nm_ne hq (by decide))]⟩
theorem runs_b {n bd D d : Nat} {g : GB} (hn : 100000 ≤ n) (hE : EvalS bd D g.1) {G0 : GS} {N0 : LN} {F0 : List Fr} {l : Lv} {R : List Lv} {T : Nat} {i0 : Nat → Int32} {j0 : Nat → Int64} {a0 : Nat → Nat → Int32} {b0 : Nat → Nat → Int64} {B0 : RB4} (hw0 : lWs l = []) : ∀ (m f : Nat) (i : Nat → Int32) (j : Nat → Int64) (a : Nat → Nat → Int32) (b : Nat → Nat → Int64) (B : RB4) (G : GS) (N : LN) (F : List Fr) (l1 : Lv), To bd (G0, N0, F0, l :: R, 0, none, none) (G, N, F, l1 :: R, 0, none, none) → sameL l l1 → nState N = 1 → nDone N0 ≤ nDone N → IV G N F (l1 :: R) → rFull i j a b B bd G N F (l1 :: R) → rTop i a b B l1 → lWs l1 = [] → i 102 = 0 → i 107 = nI T → tpOk T (l :: R) → rUp a0 b0 B0 a b B → rFm i0 j0 a0 b0 i j a b → kT7 b0 b T → 6 * (151 - (l :: R).length) + (401 - lvWaits R) ≤ D → m = (tMem (lLst l)).length - lNx l1 → m + 1 < f → PG bd (G0, N0, F0, l :: R, 0, none, none) l R T i0 j0 a0 b0 B0 (ZR bd (G0, N0, F0, l :: R, 0, none, none) l R T i0 b0) (m_Model_runs_b30 n g f i j a b (b1 (decide (6 ≤ lK l))) (i0 105) (i0 106) 3) := by
  intro m
  induction m using Nat.strongRecOn with
  | _ m ih =>
    intro f i j a b B G N F l1 ht hs hN hd hI hw htp hws h102 h107 hT hu hf hk hD hm hfm
    obtain ⟨f, rfl⟩ : ∃ f', f = f' + 1 := ⟨f - 1, by omega⟩
    obtain ⟨x, ⟨x1, x2⟩, x3, x4⟩ := id htp
    have hlo := IV_l hI
    obtain ⟨y1, y2, y3, p, y4, y5, y6⟩ := rListAt x3 hlo.2.1 x2
    have eL : lLst l1 = lLst l := hs.2.2.2.2.2.1
    have ek : lK l1 = lK l := hs.1
    have hnx := hlo.2.2.1
    have hB := rWo_B hw.1.1
    have fin : ∀ (i : Nat → Int32) (j : Nat → Int64) (a : Nat → Nat → Int32) (b : Nat → Nat → Int64) (B : RB4) (G : GS) (N : LN) (F : List Fr) (l2 : Lv) (got : Option Tr) (w : Int64), To bd (G0, N0, F0, l :: R, 0, none, none) (G, N, F, l2 :: R, 2, got, none) → sameL l l2 → nState N = 1 → nDone N0 ≤ nDone N → IV G N F (l2 :: R) → rFull i j a b B bd G N F (l2 :: R) → lWs l2 = [] → (lK l < 6 → got = none) → i 102 = 0 → i 107 = nI T → rUp a0 b0 B0 a b B → rFm i0 j0 a0 b0 i j a b → kT7 b0 b T → rO a b B got w → PG bd (G0, N0, F0, l :: R, 0, none, none) l R T i0 j0 a0 b0 B0 (ZR bd (G0, N0, F0, l :: R, 0, none, none) l R T i0 b0) (m_Model_runs_b116 n g i j a b (i0 105) (i0 106) w) := by
      intro i j a b B G N F l2 got w ht hs hN hd hI hw hws hg h102 h107 hu hf hk hv
      unfold m_Model_runs_b116
      have e : upd (upd i 105 (i0 105)) 106 (i0 106) 102 = 0 := by rw [upd_ne (by decide), upd_ne (by decide)]; exact h102
      rw [if_neg (by rw [h102]; decide), ob1_s, ob1_s, e, if_pos rfl]
      have hi : ∀ q, q ≠ 105 → q ≠ 106 → upd (upd i 105 (i0 105)) 106 (i0 106) q = i q := fun q h1 h2 => by rw [upd_ne h2, upd_ne h1]
      refine ⟨_, j, a, b, w, B, rfl, hu, rFm_trans hf (rFm_trans (rFm_i (k := 105) (by decide)) (rFm_i (by decide))), Or.inl ⟨e, G, N, F, l2, got, ht, hs, hws, hg, hN, hd, hI, ⟨rWk_i hw.1 (fun q hq => hi q (fun h => by subst h; revert hq; decide) (fun h => by subst h; revert hq; decide)), rLc_i hw.2 (hi 97 (by decide) (by decide)) (hi 98 (by decide) (by decide)) (hi 116 (by decide) (by decide)) (hi 117 (by decide) (by decide))⟩, by rw [upd_ne (by decide), upd_at], upd_at, (hi 107 (by decide) (by decide)).trans h107, hk, hv⟩⟩
    rw [m_Model_runs_b30, if_pos h102, x1, ck_n (by omega), cl_n (by omega), y2, x4]
    rcases Nat.lt_or_ge (lNx l1) (tMem (lLst l1)).length with c | c
    · rw [ile_n (by omega)]
      have hwt : lvWaits (l1 :: R) = lvWaits R := by rw [lvWaits, hws]; exact Nat.zero_add _
      have hwt0 : lvWaits R ≤ lvWaits (l :: R) := by rw [lvWaits]; omega
      have hT1 : tpOk T (l1 :: R) := by
        have e1 : mapVals (l1 :: R) = mapVals (l :: R) := by rw [mapVals, mapVals, hs.2.2.2.2.2.2.2]
        have e2 : lvWaits (l :: R) = lvWaits R := by rw [lvWaits, hw0]; exact Nat.zero_add _
        unfold tpOk at hT ⊢
        rw [e1, hwt, ← e2]
        exact hT
      have := hE i j a b B G N F l1 R T hN hI hw htp h102 h107 hT1 (fun _ => c) (by rw [hwt]; exact hD)
      rw [hws] at this
      refine PG_bind2 this ht hs hu hf hk (Nat.le_refl _) ?_ ?_
      · intro i' j' a' b' v B' gu gf g102 gz
        obtain ⟨G', N', F', l2, got, z1, ⟨z2, z3, z4⟩, z5, z6, z7, z8, z9, z10, z11, z12, z13⟩ := gz
        have hso : ∀ q, aSettle G' N' F' l2 R q = aInner G' N' F' l2 R q := fun q => settle_no (by rw [z2]; exact z4)
        have hin : ∀ q, aInner G' N' F' l2 R q = aSettleWhole G' N' F' l2 R q := fun q => by
          unfold aInner
          rw [z2]
        have hto : To bd (G0, N0, F0, l :: R, 0, none, none) (aSettleWhole G' N' F' l2 R got) := by
          rw [← hin, ← hso]
          exact To_trans (To_trans ht z1) (To1 z6)
        have hs2 := sameL_trans hs z5
        have eL2 : lLst l2 = lLst l := hs2.2.2.2.2.2.1
        have ek2 : lK l2 = lK l := hs2.1
        have hd2 : nDone N0 ≤ nDone N' := Nat.le_trans hd z7
        rw [if_pos g102]
        cases got with
        | none =>
          rw [if_pos (rO_none z13)]
          exact ih ((tMem (lLst l)).length - lNx l2) (by rw [eL] at c; omega) f i' j' a' b' B' G' N' F' l2 hto hs2 z6 hd2 z8 z9 z10 z2 g102 z11 hT (rUp_trans hu gu) (rFm_trans hf gf) (kT7_trans hk z12 (Nat.le_refl _)) hD rfl (by rw [eL] at c; omega)
        | some t =>
          rw [if_neg (rO_some z13)]
          obtain ⟨x', ⟨xx1, xx2⟩, xx3, xx4⟩ := id z10
          have hlo2 := IV_l z8
          obtain ⟨yy1, yy2, yy3, p', yy4, yy5, yy6⟩ := rListAt xx3 hlo2.2.1 xx2
          have hnx2 := hlo2.2.2.1
          have fail : aSettleWhole G' N' F' l2 R (some t) = aFail 5 G' N' F' (l2 :: R) → ∀ f v3 v6, PG bd (G0, N0, F0, l :: R, 0, none, none) l R T i0 j0 a0 b0 B0 (ZR bd (G0, N0, F0, l :: R, 0, none, none) l R T i0 b0) (m_Model_runs_b106 n g (m_Model_runs_b30 n g (f + 1)) i' j' a' b' v3 (i0 105) (i0 106) v6) := by
            intro hfl f v3 v6
            rw [hfl] at hto
            unfold m_Model_runs_b106 m_Model_runs_b113
            rw [show (5 : Int32) = nI 5 from rfl, r_fails, om_s]
            obtain ⟨i2, w, e1, e2, e3⟩ := runs_lv (n := n) (g := g) (i := rFail i' 5) (j := j') (a := a') (b := b') (v3 := v3) (v4 := i0 105) (v5 := i0 106) (v6 := v6) (f := f) (by show (2 : Int32) ≠ 0; decide)
            rw [e1]
            have := PG_fail (bd := bd) (Z := ZR bd (G0, N0, F0, l :: R, 0, none, none) l R T i0 b0) (v := w) (e := 5) (by decide) hto hs2 z6 z8 z9.1 (rUp_trans hu gu) (rFm_trans hf gf) (kT7_trans hk z12 (Nat.le_refl _))
            obtain ⟨i3, j3, a3, b3, v3', B3, k1, k2, k3, k4⟩ := this
            have k1 := Option.some.inj k1
            have q1 : rFail i' 5 = i3 := congrArg (fun z => z.1) k1
            have q2 : j' = j3 := congrArg (fun z => z.2.1) k1
            have q3 : a' = a3 := congrArg (fun z => z.2.2.1) k1
            have q4 : b' = b3 := congrArg (fun z => z.2.2.2.1) k1
            subst q1
            subst q2
            subst q3
            subst q4
            refine ⟨i2, j', a', b', w, B3, rfl, k2, rFm_trans k3 ⟨fun q hq => e3 q (fun hm => hq ((show ∀ q ∈ lsI, q ∈ chI by decide) q hm)), fun _ _ => rfl, fun _ _ => rfl, fun _ _ => rfl⟩, ?_⟩
            rcases k4 with ⟨k4, _⟩ | ⟨c', k4, _⟩ | k4
            · exact absurd k4 (by show ¬ (2 : Int32) = 0; decide)
            · exact absurd k4 (by show ¬ (2 : Int32) = 1; decide)
            · exact Or.inr (Or.inr (pLv_i k4 e3))
          obtain ⟨f, rfl⟩ : ∃ f', f = f' + 1 := ⟨f - 1, by omega⟩
          rcases Nat.lt_or_ge (lK l) 6 with k6 | k6
          · rw [decide_eq_false (show ¬ 6 ≤ lK l by omega), b1_f, if_pos (show nI 0 = (0 : Int32) from rfl)]
            exact fail (by show (if _ then _ else _) = _; rw [if_pos (Or.inl (by omega))]) f _ _
          · rw [decide_eq_true (show 6 ≤ lK l by omega), b1_t, if_neg (show ¬ nI 1 = (0 : Int32) by decide), xx1, ck_n (by omega), cl_n (by omega), yy2, xx4]
            rcases (by omega : lNx l2 = (tMem (lLst l2)).length ∨ lNx l2 < (tMem (lLst l2)).length) with q | q
            · rw [ieq_p (by omega)]
              unfold m_Model_runs_b113
              rw [m_Model_runs_b30, if_pos g102, xx1, ck_n (by omega), cl_n (by omega), yy2, xx4, ile_p (by omega)]
              have hsw : aSettleWhole G' N' F' l2 R (some t) = (G', N', F', l2 :: R, 2, some t, none) := by
                show (if _ then _ else _) = _
                rw [if_neg (by omega)]
              rw [hsw] at hto
              exact fin i' j' a' b' B' G' N' F' l2 (some t) v hto hs2 z6 hd2 z8 z9 z2 (fun h => by omega) g102 z11 (rUp_trans hu gu) (rFm_trans hf gf) (kT7_trans hk z12 (Nat.le_refl _)) z13
            · rw [ieq_n (by omega)]
              have := fail (by show (if _ then _ else _) = _; rw [if_pos (Or.inr q)]) f (nI 1) 3
              exact this
      · intro i' j' a' b' v hne
        rw [if_neg hne]
        obtain ⟨f, rfl⟩ : ∃ f', f = f' + 1 := ⟨f - 1, by omega⟩
        exact runs_lv hne
    · rw [ile_p (by omega)]
      have hmt : aMeet G N F l1 R = (G, N, F, l1 :: R, 2, none, none) := by
        unfold aMeet
        rw [List.getElem?_eq_none (by omega)]
        dsimp only
        rw [if_pos hws]
      exact fin i j a b B G N F l1 none 3 (by rw [← hmt]; exact To_trans ht (To0 hN)) hs hN hd hI hw hws (fun _ => rfl) h102 h107 hu hf hk rfl
theorem RunsS_of {n bd D : Nat} {g : GB} (hn : 100000 ≤ n) (hE : EvalS bd D g.1) : RunsS bd (D + 1) (m_Model_runs n g) := by
  intro i j a b B G N F l R T v hN hI hw hws hnx h102 h107 hT hv hD
  have hlo := IV_l hI
  have e := r_isL_eq hv hlo.2.1
  have hv2 := hv
  rw [e] at hv2
  obtain ⟨x, p, rfl, h3, h4⟩ := rV_tL.mp hv2
  have hx : x < 90000 := by have := h3.1; have := h3.2.1; omega
  have hlen : (tMem (lLst l)).length ≤ 90000 := by have := h3.2.2.1; have := h3.2.2.2.2.2.2.1; omega
  unfold m_Model_runs
  rw [ob1_s, ob1_s, r_whatL (by omega), ob0_s, ob1_s, ob1_s]
  have hi : ∀ q, q ≠ 105 → q ≠ 106 → upd (upd i 105 (nI x)) 106 0 q = i q := fun q h1 h2 => by rw [upd_ne h2, upd_ne h1]
  have hwt : lvWaits (l :: R) = lvWaits R := by rw [lvWaits, hws]; exact Nat.zero_add _
  refine runs_b (i0 := i) (j0 := j) (a0 := a) (b0 := b) (B0 := B) (d := 0) hn hE hws _ n _ j a b B G N F l To_refl (sameL_refl l) hN (Nat.le_refl _) hI ⟨rWk_i hw.1 (fun q hq => hi q (fun h => by subst h; revert hq; decide) (fun h => by subst h; revert hq; decide)), rLc_i hw.2 (hi 97 (by decide) (by decide)) (hi 98 (by decide) (by decide)) (hi 116 (by decide) (by decide)) (hi 117 (by decide) (by decide))⟩ ⟨x, ⟨by rw [upd_ne (by decide), upd_at], by omega⟩, hv, by rw [upd_at, hnx]; rfl⟩ hws ((hi 102 (by decide) (by decide)).trans h102) ((hi 107 (by decide) (by decide)).trans h107) hT (rUp_refl (rWo_B hw.1.1)) (rFm_trans (rFm_i (k := 105) (by decide)) (rFm_i (by decide))) kT7_refl (by rw [hwt] at hD; omega) rfl (by omega)

