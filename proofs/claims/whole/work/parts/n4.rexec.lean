/-! a line is executed in the reference -/
/-- where the reference stands -/
def rEnd (i : Nat → Int32) (j : Nat → Int64) (a : Nat → Nat → Int32) (b : Nat → Nat → Int64) (B : RB4) (bd : Nat) (c : Cfg) : Prop := rWo i j a b B bd c.1 c.2.1 c.2.2.1 ∧ i 92 = nI (cSt c) ∧ i 97 = nI c.2.2.2.1.length ∧ i 98 = nI (lvWaits c.2.2.2.1) ∧ (cSt c ≠ 1 → i 94 = nI (nErr c.2.1) ∧ c.2.2.2.1 = [] ∧ c.2.2.1 = []) ∧ (cSt c = 1 → rAs i c.1 c.2.2.2.1 ∧ i 94 = 0)
def exI : List Nat := [92, 94]
def rFx (i : Nat → Int32) (j : Nat → Int64) (a : Nat → Nat → Int32) (b : Nat → Nat → Int64) (i' : Nat → Int32) (j' : Nat → Int64) (a' : Nat → Nat → Int32) (b' : Nat → Nat → Int64) : Prop := (∀ q, q ∉ chI → q ∉ exI → i' q = i q) ∧ (∀ q, q ∉ chJ → q ∉ [108, 124, 125] → j' q = j q) ∧ (∀ q, q ∉ chA → a' q = a q) ∧ (∀ q, q ∉ chB → b' q = b q)
theorem rFx_m {i i' i2 : Nat → Int32} {j j' j2 : Nat → Int64} {a a' a2 : Nat → Nat → Int32} {b b' b2 : Nat → Nat → Int64} (h : rFx i j a b i' j' a' b') (h' : rFm i' j' a' b' i2 j2 a2 b2) : rFx i j a b i2 j2 a2 b2 := ⟨fun q h1 h2 => (h'.1 q h1).trans (h.1 q h1 h2), fun q h1 h2 => (h'.2.1 q h1).trans (h.2.1 q h1 h2), fun q h1 => (h'.2.2.1 q h1).trans (h.2.2.1 q h1), fun q h1 => (h'.2.2.2 q h1).trans (h.2.2.2 q h1)⟩
theorem rFx_i {i i' i2 : Nat → Int32} {j j' : Nat → Int64} {a a' : Nat → Nat → Int32} {b b' : Nat → Nat → Int64} (h : rFx i j a b i' j' a' b') (h' : ∀ q, q ∉ chI → q ∉ exI → i2 q = i' q) : rFx i j a b i2 j' a' b' := ⟨fun q h1 h2 => (h' q h1 h2).trans (h.1 q h1 h2), h.2.1, h.2.2.1, h.2.2.2⟩
theorem To_st {bd : Nat} {c c' : Cfg} (h : To bd c c') (hs : aStands bd c') : ∃ k, aIt bd k c = c' ∧ aStands bd c' := by
  obtain ⟨k, e⟩ := h
  exact ⟨k, e, hs⟩
/-- what execute leads to -/
def XG (bd : Nat) (c0 : Cfg) (i : Nat → Int32) (j : Nat → Int64) (a : Nat → Nat → Int32) (b : Nat → Nat → Int64) (B : RB4) (o : Option ((Nat → Int32) × (Nat → Int64) × (Nat → Nat → Int32) × (Nat → Nat → Int64) × Int32)) : Prop := ∃ i' j' a' b' B' c', o = some (i', j', a', b', 0) ∧ rUp a b B a' b' B' ∧ rFx i j a b i' j' a' b' ∧ To bd c0 c' ∧ aStands bd c' ∧ aInv2 c' ∧ rEnd i' j' a' b' B' bd c'
/-- the end of a line -/
theorem x_ended {n : Nat} {i : Nat → Int32} {j : Nat → Int64} {a : Nat → Nat → Int32} {b : Nat → Nat → Int64} (h103 : i 103 = 0) : ∃ i', m_Model_ended n i j a b = some (i', j, a, b, 0) ∧ i' 97 = 0 ∧ i' 98 = 0 ∧ i' 99 = 0 ∧ ∀ q, q ∉ [97, 98, 99, 103] → i' q = i q := by
  unfold m_Model_ended
  simp only [ob1_s]
  have e : upd (upd (upd i 97 0) 98 0) 99 0 103 = 0 := by rw [upd_ne (by decide), upd_ne (by decide), upd_ne (by decide)]; exact h103
  rw [e, if_pos (by decide)]
  refine ⟨_, rfl, ?_, ?_, ?_, fun q hq => ?_⟩
  · rw [upd_ne (by decide), upd_ne (by decide), upd_ne (by decide), upd_at]
  · rw [upd_ne (by decide), upd_ne (by decide), upd_at]
  · rw [upd_ne (by decide), upd_at]
  · rw [upd_ne (nm_ne hq (by decide)), upd_ne (nm_ne hq (by decide)), upd_ne (nm_ne hq (by decide)), upd_ne (nm_ne hq (by decide))]
theorem rWo_fin {i : Nat → Int32} {j : Nat → Int64} {a : Nat → Nat → Int32} {b : Nat → Nat → Int64} {i' : Nat → Int32} {B : RB4} {bd st e : Nat} {G : GS} {N : LN} {F : List Fr} (h : rWo i j a b B bd G N F) (hF : F = []) (hi : ∀ q, q ∈ woI → q ≠ 99 → i' q = i q) (h99 : i' 99 = 0) : rWo i' j a b B bd G (nEnd N st e) [] := by
  subst hF
  have : rWo (upd i' 99 0) j a b B bd G N [] := rWo_i h (fun q hq => by
    rcases Classical.em (q = 99) with e9 | e9
    · subst e9
      rw [upd_at]
      exact h.2.2.1.2.2.symm
    · rw [upd_ne e9]; exact hi q hq e9)
  have e2 : upd i' 99 0 = i' := by
    funext q
    unfold upd
    split
    · next h9 => rw [h9, h99]
    · rfl
  rw [e2] at this
  exact this
/-- it has ended, with this state and error -/
theorem x_fin {n d bd st e : Nat} {c0 : Cfg} {i0 : Nat → Int32} {j0 : Nat → Int64} {a0 : Nat → Nat → Int32} {b0 : Nat → Nat → Int64} {B0 : RB4} {i : Nat → Int32} {j : Nat → Int64} {a : Nat → Nat → Int32} {b : Nat → Nat → Int64} {B : RB4} {G : GS} {N : LN} {F : List Fr} {l : Lv} (hst : (st = 3 ∧ (i 102 = 2 ∨ i 102 = 6) ∧ i 126 = nI e) ∨ (st = 2 ∧ e = 0 ∧ i 102 ≠ 1 ∧ i 102 ≠ 2 ∧ i 102 ≠ 6)) (he : e ≤ 13) (hk : lK l = 0) (ht : To bd c0 (aFinish st e G N [l])) (hI : IV G N F [l]) (hw : rWk i j a b B bd G N F [l]) (hu : rUp a0 b0 B0 a b B) (hf : rFx i0 j0 a0 b0 i j a b) : XG bd c0 i0 j0 a0 b0 B0 (m_Model_execute_b166 n d i j a b) := by
  have hF : F = [] := by
    have := hI.2.2.1.2.2.2.2.1
    rw [lvCalls, if_neg (by omega)] at this
    exact List.length_eq_zero_iff.mp this
  have h103 : i 103 = 0 := by
    have := hw.2.2.1.2.1
    rw [lvCn, hk] at this
    exact this
  have hfe : aFinish st e G N [l] = (G, nEnd N st e, [], [], 1, none, none) := by
    unfold aFinish
    rw [lvTold, if_neg (by omega)]
    rfl
  have hst1 : st ≠ 1 ∧ st ≤ 3 ∧ 2 ≤ st := by rcases hst with h | h <;> omega
  rw [hfe] at ht
  have hinv : aInv2 (G, nEnd N st e, [], [], 1, none, none) := by
    have := iv_finish (st := st) (e := e) hI (by omega) he
    rw [hfe] at this
    exact this
  have fin : ∀ i2 : Nat → Int32, (∀ q, q ∉ exI → i2 q = i q) → i2 92 = nI st → i2 94 = nI e → XG bd c0 i0 j0 a0 b0 B0 (om (m_Model_ended n i2 j a b) (fun i_4 j_5 a_6 b_7 r_8 => some (i_4, j_5, a_6, b_7, (0 : Int32)))) := by
    intro i2 h2 h92 h94
    obtain ⟨i3, e1, e2, e3, e4, e5⟩ := x_ended (n := n) (i := i2) (j := j) (a := a) (b := b) ((h2 103 (by decide)).trans h103)
    rw [e1, om_s]
    refine ⟨i3, j, a, b, B, _, rfl, hu, rFx_i hf (fun q q1 q2 => (e5 q (fun hm => q1 ((show ∀ q ∈ [97, 98, 99, 103], q ∈ chI by decide) q hm))).trans (h2 q q2)), ht, Or.inl hst1.1, hinv, rWo_fin hw.1 hF (fun q hq h9 => ?_) e4, ?_, e2, e3, fun _ => ⟨?_, rfl, rfl⟩, fun h => absurd h hst1.1⟩
    · rw [e5 q ((show ∀ q ∈ woI, q ≠ 99 → q ∉ [97, 98, 99, 103] by decide) q hq h9), h2 q ((show ∀ q ∈ woI, q ∉ exI by decide) q hq)]
    · rw [e5 92 (by decide)]; exact h92
    · rw [e5 94 (by decide)]; exact h94
  unfold m_Model_execute_b166
  rcases hst with ⟨s1, s2, s3⟩ | ⟨s1, s2, s3, s4, s5⟩
  · have hn1 : i 102 ≠ 1 := by rcases s2 with h | h <;> (rw [h]; decide)
    have b219 : XG bd c0 i0 j0 a0 b0 B0 (m_Model_execute_b219 n d (upd i 92 3) j a b) := by
      unfold m_Model_execute_b219
      rw [ob1_s, ob1_s]
      refine fin _ (fun q hq => by rw [upd_ne (nm_ne hq (by decide)), upd_ne (nm_ne hq (by decide))]) ?_ ?_
      · rw [upd_ne (by decide), upd_at, s1]; rfl
      · rw [upd_at, upd_ne (by decide)]; exact s3
    have b198 : XG bd c0 i0 j0 a0 b0 B0 (m_Model_execute_b198 n d i j a b 3) := by
      unfold m_Model_execute_b198
      rw [ob1_s, upd_ne (by decide)]
      rcases s2 with h | h
      · rw [if_pos h]; exact b219
      · rw [if_neg (by rw [h]; decide), if_pos h]; exact b219
    rw [if_neg hn1]
    unfold m_Model_execute_b193
    rcases s2 with h | h
    · rw [if_pos h]; exact b198
    · rw [if_neg (by rw [h]; decide), if_pos h]; exact b198
  · rw [if_neg s3, if_neg s4, if_neg s5]
    unfold m_Model_execute_b198
    rw [ob1_s, upd_ne (by decide), if_neg s4, if_neg s5, ob1_s]
    refine fin _ (fun q hq => by rw [upd_ne (nm_ne hq (by decide)), upd_ne (nm_ne hq (by decide))]) ?_ ?_
    · rw [upd_ne (by decide), upd_at, s1]; rfl
    · rw [upd_at, s2]; rfl
/-- the turns of execute -/
theorem exec_l {n d bd : Nat} (hn : 100000 ≤ n) (hd : 1400 ≤ d) {c0 : Cfg} {i0 : Nat → Int32} {j0 : Nat → Int64} {a0 : Nat → Nat → Int32} {b0 : Nat → Nat → Int64} {B0 : RB4} {l : Lv} (hk : lK l = 0) (hw0 : lWs l = []) (hv0 : lVals l = []) : ∀ (m f : Nat) (i : Nat → Int32) (j : Nat → Int64) (a : Nat → Nat → Int32) (b : Nat → Nat → Int64) (B : RB4) (G : GS) (N : LN) (F : List Fr) (l1 : Lv), To bd c0 (G, N, F, [l1], 0, none, none) → sameL l l1 → nState N = 1 → IV G N F [l1] → rFull i j a b B bd G N F [l1] → rTop i a b B l1 → lWs l1 = [] → i 102 = 0 → i 107 = nI 0 → (i 92 = 1 ∧ i 94 = 0) → rUp a0 b0 B0 a b B → rFx i0 j0 a0 b0 i j a b → m = (tMem (lLst l)).length - lNx l1 → m + 1 < f → XG bd c0 i0 j0 a0 b0 B0 (m_Model_execute_b113 n d f i j a b) := by
  intro m
  induction m using Nat.strongRecOn with
  | _ m ih =>
    intro f i j a b B G N F l1 ht hs hN hI hw htp hws h102 h107 h92 hu hf hm hfm
    obtain ⟨f, rfl⟩ : ∃ f', f = f' + 1 := ⟨f - 1, by omega⟩
    obtain ⟨x, ⟨x1, x2⟩, x3, x4⟩ := id htp
    have hlo := IV_l hI
    obtain ⟨y1, y2, y3, p, y4, y5, y6⟩ := rListAt x3 hlo.2.1 x2
    have eL : lLst l1 = lLst l := hs.2.2.2.2.2.1
    have ek : lK l1 = 0 := hs.1.trans hk
    have hnx := hlo.2.2.1
    rw [m_Model_execute_b113, if_pos h102, x1, ck_n (by omega), cl_n (by omega), y2, x4]
    rcases Nat.lt_or_ge (lNx l1) (tMem (lLst l1)).length with c | c
    · rw [ile_n (by omega)]
      have hwt : lvWaits [l1] = 0 := by rw [lvW_0 hws]; rfl
      have hT1 : tpOk 0 [l1] := Nat.zero_le _
      have hev := eval_all (bd := bd) hn d i j a b B G N F l1 [] 0 hN hI hw htp h102 h107 hT1 (fun _ => c) (by rw [hwt]; show 6 * (151 - 1) + (401 - 0) ≤ d; omega)
      rw [hws] at hev
      obtain ⟨i', j', a', b', v, B', e1, gu, gf, e4⟩ := hev
      rw [show (0 : Int32) = nI (wsStr ([] : List Wt)) from rfl, e1, om_s]
      have hu2 := rUp_trans hu gu
      have hf2 := rFx_m hf gf
      have h92' : i' 92 = 1 ∧ i' 94 = 0 := ⟨(gf.1 92 (by decide)).trans h92.1, (gf.1 94 (by decide)).trans h92.2⟩
      have out : ∀ (i2 : Nat → Int32) (f : Nat), i2 102 ≠ 0 → m_Model_execute_b113 n d (f + 1) i2 j' a' b' = m_Model_execute_b166 n d i2 j' a' b' := fun i2 f h => by rw [m_Model_execute_b113, if_neg h]
      obtain ⟨f, rfl⟩ : ∃ f', f = f' + 1 := ⟨f - 1, by omega⟩
      unfold m_Model_execute_b163
      rcases e4 with ⟨e4, G', N', F', l2, got, z1, ⟨z2, z3, z4⟩, z5, z6, z7, z8, z9, z10, z11, z12, z13⟩ | ⟨c', s1, s2, s3, s4, s5, s6⟩ | ⟨G', N', F', l2, lv, e, t, g1, g2, ⟨s1, s2, s3, s4⟩, g4, g5, g6, g7, g8, g9⟩
      · have hs2 := sameL_trans hs z5
        have hto := To_trans (To_trans ht z1) (To1 (bd := bd) z6)
        have hno : aSettle G' N' F' l2 [] got = aSettleWhole G' N' F' l2 [] got := by
          rw [settle_no (by rw [z2]; exact z4)]
          unfold aInner
          rw [z2]
        rw [hno] at hto
        rw [if_pos (show i' 102 = nI (wsStr ([] : List Wt)) from e4)]
        cases got with
        | none =>
          rw [if_pos (show lg_cmp v 3 = nI (wsStr ([] : List Wt)) from rO_none z13)]
          exact ih ((tMem (lLst l)).length - lNx l2) (by rw [eL] at c; omega) (f + 1) i' j' a' b' B' G' N' F' l2 hto hs2 z6 z8 z9 z10 z2 e4 z11 h92' hu2 hf2 rfl (by rw [eL] at c; omega)
        | some tt =>
          rw [if_neg (show ¬ lg_cmp v 3 = nI (wsStr ([] : List Wt)) from rO_some z13), show (5 : Int32) = nI 5 from rfl, r_fails, om_s, out _ f (by show (2 : Int32) ≠ 0; decide)]
          have hfl : aSettleWhole G' N' F' l2 [] (some tt) = aFail 5 G' N' F' [l2] := by
            show (if _ then _ else _) = _
            rw [if_pos (Or.inl (by have := hs2.1; omega))]
          have hfe : aFail 5 G' N' F' [l2] = aFinish 3 5 G' N' [l2] := by
            unfold aFail
            rw [lvAt_no (by unfold isErr; rw [hs2.1, hk]; rfl)]
            rfl
          rw [hfl, hfe] at hto
          exact x_fin (l := l2) (Or.inl ⟨rfl, Or.inl rfl, rfl⟩) (by decide) (hs2.1.trans hk) hto z8 (rWk_i z9.1 rFail_at) hu2 (rFx_i hf2 (fun q q1 q2 => rFail_up q (fun h => q1 (upI_ch q h))))
      · rw [if_neg (show ¬ i' 102 = nI (wsStr ([] : List Wt)) by rw [s1]; decide), out _ f (by rw [s1]; decide)]
        unfold m_Model_execute_b166
        rw [if_pos s1]
        exact ⟨i', j', a', b', B', c', rfl, hu2, hf2, To_trans ht s2, s3, s5, s6.1.1, by rw [s4]; exact h92'.1, s6.2.1, s6.2.2.1, fun h => absurd s4 h, fun _ => ⟨s6.1.2.2.1, h92'.2⟩⟩
      · have hk2 : lK l2 = 0 := g5.1.trans ek
        have hlv := g2.1
        have hlv6 := g2.2.1
        have hne : i' 102 ≠ 0 := by rw [g1]; intro h; have := (nI_eq (by omega) (by omega)).mp (show nI lv = nI 0 from h); omega
        rw [if_neg (show ¬ i' 102 = nI (wsStr ([] : List Wt)) from hne), out _ f hne]
        have hto := To_trans ht g4
        have nE : lvAt isErr [l2] = none := by rw [lvAt_no (by unfold isErr; rw [hk2]; rfl)]; rfl
        have nC : lvAt isCall [l2] = none := by rw [lvAt_no (by unfold isCall; rw [hk2]; rfl)]; rfl
        have nT : lvAt (isTag (tLet t)) [l2] = none := by rw [lvAt_no (by unfold isTag; rw [hk2]; rfl)]; rfl
        rcases (by omega : lv = 2 ∨ lv = 3 ∨ lv = 4 ∨ lv = 5 ∨ lv = 6) with q | q | q | q | q
        · subst q
          have : aLV 2 e t G' N' F' [l2] = aFinish 3 e G' N' [l2] := by
            show aFail e G' N' F' [l2] = _
            unfold aFail
            rw [nE]
          rw [this] at hto
          exact x_fin (l := l2) (Or.inl ⟨rfl, Or.inl g1, s1 rfl⟩) g2.2.2.1 hk2 hto g7 g8 hu2 hf2
        · exact absurd nT (g2.2.2.2.1 q)
        · subst q
          have : aLV 4 e t G' N' F' [l2] = aFinish 2 0 G' N' [l2] := by
            show aStop G' N' F' [l2] = _
            unfold aStop
            rw [nC]
          rw [this] at hto
          exact x_fin (l := l2) (Or.inr ⟨rfl, rfl, by rw [g1]; decide, by rw [g1]; decide, by rw [g1]; decide⟩) (by decide) hk2 hto g7 g8 hu2 hf2
        · exact absurd nC (g2.2.2.2.2 q)
        · subst q
          have : aLV 6 e t G' N' F' [l2] = aFinish 3 13 G' N' [l2] := rfl
          rw [this] at hto
          exact x_fin (l := l2) (Or.inl ⟨rfl, Or.inr g1, s4 rfl⟩) (by decide) hk2 hto g7 g8 hu2 hf2
    · rw [ile_p (by omega)]
      have hto := To_trans ht (To0 (bd := bd) hN)
      have em : aMeet G N F l1 [] = (G, N, F, [l1], 2, none, none) := by
        unfold aMeet
        rw [List.getElem?_eq_none c]
        dsimp only
        rw [if_pos hws]
      rw [em] at hto
      have hto2 := To_trans hto (To2 (bd := bd) hN)
      have ed : aDone G N F l1 [] none = aFinish 2 0 G N [l1] := by
        unfold aDone
        rw [if_pos ek]
      rw [ed] at hto2
      exact x_fin (l := l1) (Or.inr ⟨rfl, rfl, by rw [h102]; decide, by rw [h102]; decide, by rw [h102]; decide⟩) (by decide) ek hto2 hI hw.1 hu hf

