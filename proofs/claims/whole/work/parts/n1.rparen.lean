/-! parens, minus, quotes and values in the reference -/
theorem om_om {S : Type} {α : Type} {o : Option ((Nat → Int32) × (Nat → Int64) × (Nat → Nat → Int32) × (Nat → Nat → Int64) × S)} {K1 : (Nat → Int32) → (Nat → Int64) → (Nat → Nat → Int32) → (Nat → Nat → Int64) → S → Option ((Nat → Int32) × (Nat → Int64) × (Nat → Nat → Int32) × (Nat → Nat → Int64) × Int64)} {K2 : (Nat → Int32) → (Nat → Int64) → (Nat → Nat → Int32) → (Nat → Nat → Int64) → Int64 → Option α} : om (om o K1) K2 = om o (fun i j a b r => om (K1 i j a b r) K2) := by
  cases o with
  | none => rfl
  | some p => rfl
theorem tx13 : isTx 13 [41] := ⟨by decide, by decide, by decide, by decide, by decide +kernel⟩
theorem lex76 (l : List Nat) : aLex l = 76 ↔ l = [41] := by
  constructor
  · intro h
    rcases lexC l with q | q | ⟨q, _⟩ | q | q | ⟨s, s1, s2, s3⟩ | q | q | q
    · rw [lex_34 q] at h; omega
    · rw [lex_58 q] at h; omega
    · have := (lex_pW q).2.1; omega
    · rw [q, lexV.1] at h; omega
    · exact q
    · omega
    · rw [q, lexV.2.2.2.2.2.2.2.2.2.1] at h; omega
    · rw [q, lexV.2.2.2.2.2.2.2.2.2.2] at h; omega
    · omega
  · intro h; rw [h]; exact lexV.2.1
/-- what begins with a quote -/
def rQ (G : GS) (N : LN) (F : List Fr) (r : Rs) : VRes := match r with
  | .ok v => .ok (G, N, F, v)
  | .error e => .error e
theorem eC_Q {G : GS} {N : LN} {F : List Fr} {L : List Lv} {r : Rs} : aTake G N F L r = eC (rQ G N F r) G N F L := by
  cases r with
  | error e => rfl
  | ok v => rfl
theorem VR_quote {n : Nat} {i : Nat → Int32} {j : Nat → Int64} {a : Nat → Nat → Int32} {b : Nat → Nat → Int64} {B : RB4} {bd : Nat} {G : GS} {N : LN} {F : List Fr} {x : Nat} {l : List Nat} (hn : 1000 ≤ n) (h : rWo i j a b B bd G N F) (hm : nMade N ≤ 30000) (hw : rW a B x l) : VR i j a b B bd G N F (rQ G N F (aQuote l)) (m_Model_quoted n i j a b (nI x)) := by
  obtain ⟨⟨w1, w2, w3⟩, w4, ⟨w5, w6, w7⟩, w8, ⟨w9, w10⟩, w11, ⟨w12, w13⟩, w14, ⟨w15, w16, w17⟩, w18, w19⟩ := id h
  obtain ⟨r1, r2, r3⟩ := id w3
  obtain ⟨i', a', b', B', v, e1, e2, e3, e4, e5, e6, e7, e8⟩ := r_quoted (n := n) (j := j) hn hw w1 w2 (by omega)
  have f1 : B'.2.1 = B.2.1 := congrArg (fun q => q.1) e5
  have f2 : B'.2.2.1 = B.2.2.1 := congrArg (fun q => q.2.1) e5
  have f3 : B'.2.2.2 = B.2.2.2 := congrArg (fun q => q.2.2) e5
  have ha : ∀ q, q ∉ upA → a' q = a q := fun q hq => e6 q (nm_ne hq (by decide)) (nm_ne hq (by decide)) (nm_ne hq (by decide))
  have hb : ∀ q, q ∉ upB → b' q = b q := fun q hq => e7 q (nm_ne hq (by decide))
  rcases e8 with ⟨e, g1, g2, g3, g4, g5⟩ | ⟨t, g1, g2, g3⟩
  · rw [g1]
    exact VR_err h e1 e2 e3 e4 ⟨by omega, by omega, by omega⟩ (g5 96 (by decide) (by decide) (by decide) (by decide)) ha hb (fun q hq => g5 q (nm_ne hq (by decide)) (nm_ne hq (by decide)) (nm_ne hq (by decide)) (nm_ne hq (by decide))) g3 g4 ⟨Nat.le_refl _, by omega, by omega⟩
  · rw [g1]
    exact VR_ok (m := nMade N) h e1 e2 e3 e4 ⟨by omega, by omega, by omega⟩ ((g3 96 (by decide) (by decide)).trans w17) ha hb (fun q hq => g3 q (nm_ne hq (by decide)) (nm_ne hq (by decide))) (g3 102 (by decide) (by decide)) g2 ⟨Nat.le_refl _, by omega, by omega⟩
theorem lGet_nil : ∀ ls : List Loc, (∀ l ∈ ls, l.1 ≠ []) → lGet ls [] = none := by
  intro ls
  induction ls with
  | nil => intro _; rfl
  | cons x ls ih =>
    intro h
    rw [lGet, if_neg (h x List.mem_cons_self)]
    exact ih (fun l hl => h l (List.mem_cons_of_mem _ hl))
theorem gGet_nil : ∀ ls : List (Nm × Tr), (∀ l ∈ ls, l.1 ≠ []) → gGet ls [] = none := by
  intro ls
  induction ls with
  | nil => intro _; rfl
  | cons x ls ih =>
    intro h
    rw [gGet, if_neg (h x List.mem_cons_self)]
    exact ih (fun l hl => h l (List.mem_cons_of_mem _ hl))
theorem fGet_nil {a : Nat → Nat → Int32} {b : Nat → Nat → Int64} {B : RB4} : ∀ F : List Fr, rFr a b B F → fGet F [] = none := by
  intro F
  induction F with
  | nil => intro _; rfl
  | cons f F ih =>
    intro h
    rw [fGet, lGet_nil f.2 (fun l hl => by
      obtain ⟨m, hm, em⟩ := List.getElem_of_mem hl
      obtain ⟨x, _, hx⟩ := (h.2.1 m hm).1
      rw [← em]
      exact hx.2.2.2.1)]
    exact ih h.2.2
theorem aFind_nil {i : Nat → Int32} {j : Nat → Int64} {a : Nat → Nat → Int32} {b : Nat → Nat → Int64} {B : RB4} {bd : Nat} {G : GS} {N : LN} {F : List Fr} (h : rWo i j a b B bd G N F) : aFind F (gGlob G) [] = none := by
  unfold aFind
  rw [fGet_nil F h.2.2.1.1]
  exact gGet_nil _ (fun l hl => by
    obtain ⟨m, hm, em⟩ := List.getElem_of_mem hl
    obtain ⟨x, _, hx⟩ := (h.2.2.2.1.2.2 m hm).1
    rw [← em]
    exact hx.2.2.2.1)
/-- what begins with a colon -/
def rCo (G : GS) (N : LN) (F : List Fr) (l : List Nat) : VRes := if l.tail = [] then .error 2 else match aFind F (gGlob G) l.tail with
  | none => .error 2
  | some v => .ok (G, N, F, some v)
theorem VR_colon {n : Nat} {i : Nat → Int32} {j : Nat → Int64} {a : Nat → Nat → Int32} {b : Nat → Nat → Int64} {B : RB4} {bd : Nat} {G : GS} {N : LN} {F : List Fr} {x : Nat} {l : List Nat} (hn : 1000 ≤ n) (h : rWo i j a b B bd G N F) (hF : F.length ≤ 150) (hw : rW a B x l) : VR i j a b B bd G N F (rCo G N F l) (m_Model_valueOf n i j a b (a 3 x + 1) (a 4 x - 1)) := by
  obtain ⟨⟨w1, w2, w3⟩, w4, ⟨w5, w6, w7⟩, w8, ⟨w9, w10⟩, w11, ⟨w12, w13⟩, w14, ⟨w15, w16, w17⟩, w18, w19⟩ := id h
  obtain ⟨h1, h2, h3, h4, h5, h6, h7, p, h8, h9, h10⟩ := id hw
  have hlp : 0 < l.length := List.length_pos_iff.mpr h4
  have htl : l.tail.length = l.length - 1 := List.length_tail
  have hTx : rT a (p + 1) l.tail := ⟨by omega, by omega, fun c hc => h6 c (List.mem_of_mem_tail hc), fun k hk => by
    rw [List.getElem_tail, Nat.add_assoc, Nat.add_comm 1 k]
    exact h10 (k + 1) (by omega)⟩
  rw [h8, h7, show nI p + (1 : Int32) = nI (p + 1) from nI_add p 1, rI_pred hlp (by omega), ← htl]
  unfold rCo
  rcases r_valueOf (n := n) (i := i) (j := j) hn (rWo_B h) hTx w7 w5 w8 hF with ⟨t', v', e1, e2, e3⟩ | ⟨e1, e3⟩
  · rcases Classical.em (l.tail = []) with c | c
    · rw [c, aFind_nil h] at e1
      cases e1
    · rw [if_neg c, e1, e3]
      exact VR_v h rfl e2
  · rcases Classical.em (l.tail = []) with c | c
    · rw [if_pos c, e3]
      exact VR_fail h rfl
    · rw [if_neg c, e1, e3]
      exact VR_fail h rfl
theorem VR_neg {n : Nat} {i : Nat → Int32} {j : Nat → Int64} {a : Nat → Nat → Int32} {b : Nat → Nat → Int64} {B : RB4} {bd : Nat} {G : GS} {N : LN} {F : List Fr} {L : List Lv} {y : Tr} {v : Int64} (h : rWo i j a b B bd G N F) (hy : rV a b B y none v) : ∃ r, aDo 25 [y] G N F L = eC r G N F L ∧ VR i j a b B bd G N F r (ob0 (m_Model_isNumber n v) (fun r_12 => if r_12 = ((0 : Int32)) then om (m_Model_fails n i j a b (3 : Int32)) (fun i_15 j_16 a_17 b_18 r_19 => some (i_15, j_16, a_17, b_18, r_19)) else ob0 (m_Model_what n v) (fun r_21 => ob0 (m_Model_number n (-r_21)) (fun r_23 => some (i, j, a, b, r_23))))) ∧ ∀ G' N' F' v, r = .ok (G', N', F', v) → N' = N := by
  obtain ⟨k1, _, _⟩ := r_kinds n hy
  have af : aFits (aKind 25) [y] = (isN y && true) := rfl
  rw [k1, ob0_s]
  cases hn : isN y with
  | false =>
    rw [hn] at af
    refine ⟨.error 3, by unfold aDo; dsimp only; rw [if_pos (by rw [af]; rfl)]; rfl, ?_, fun G' N' F' v e => by cases e⟩
    rw [b1_f, if_pos (show nI 0 = (0 : Int32) from rfl)]
    exact VR_fail h rfl
  | true =>
    rw [hn] at af
    obtain ⟨n1, n2, n3⟩ := numAt (n := n) hy hn
    refine ⟨.ok (G, N, F, some (tN (-(tNum y)))), ?_, ?_, fun G' N' F' v e => by cases e; rfl⟩
    · unfold aDo
      dsimp only
      rw [if_neg (by rw [af]; decide), if_neg (by decide), if_pos (by decide)]
      have : aNumber 25 (tNum y) (tNum (([y] : List Tr).getD 1 .nil)) y (([y] : List Tr).getD 1 .nil) G = .ok (G, some (tN (-(tNum y)))) := by
        show (match inB (-(tNum y)) with | .ok t => _ | .error e => _) = _
        unfold inB
        rw [if_neg (by omega)]
      show retG G N F L (aNumber 25 (tNum y) (tNum (([y] : List Tr).getD 1 .nil)) y (([y] : List Tr).getD 1 .nil) G) = _
      rw [this]
      rfl
    · rw [b1_t, if_neg (show ¬ nI 1 = (0 : Int32) by decide), n1, ob0_s, ← Int32.ofInt_neg, r_number (by omega) (by omega), ob0_s]
      exact VR_v h rfl (show rV a b B (tN (-(tNum y))) none (vN (-(tNum y))) from rV_tN.mpr ⟨by omega, by omega, rfl⟩)
/-- a result, and then the signs -/
theorem vr_then {n bd d : Nat} {g : GB} (hn : 100000 ≤ n) (hE : EvalS bd d g.1) {c0 : Cfg} {l : Lv} {R : List Lv} {T s : Nat} {i0 : Nat → Int32} {j0 : Nat → Int64} {a0 : Nat → Nat → Int32} {b0 : Nat → Nat → Int64} {B0 : RB4} (hsl : s = wsStr (lWs l)) (hs4 : s ≤ 4) (hD : 6 * (151 - (l :: R).length) + (401 - lvWaits (l :: R)) ≤ d + 1) (hT : tpOk T (l :: R)) {i : Nat → Int32} {j : Nat → Int64} {a : Nat → Nat → Int32} {b : Nat → Nat → Int64} {B : RB4} {G : GS} {N : LN} {F : List Fr} {l1 : Lv} {r : VRes} {o : Option ((Nat → Int32) × (Nat → Int64) × (Nat → Nat → Int32) × (Nat → Nat → Int64) × Int64)} (hvr : VR i j a b B bd G N F r o) (hst : ∀ G' N' F' v, r = .ok (G', N', F', v) → N' = N) (ht : To bd c0 (eC r G N F (l1 :: R))) (hv : aInv2 (eC r G N F (l1 :: R))) (hs : sameL l l1) (hws : lWs l1 = lWs l) (hnx : lNx l < lNx l1) (hN : nState N = 1) (hdN : nDone c0.2.1 ≤ nDone N) (hI : IV G N F (l1 :: R)) (hw : rFull i j a b B bd G N F (l1 :: R)) (htp : rTop i a b B l1) (h102 : i 102 = 0) (h107 : i 107 = nI T) (hu : rUp a0 b0 B0 a b B) (hfm : rFm i0 j0 a0 b0 i j a b) (hk7 : kT7 b0 b T) : PG bd c0 l R T i0 j0 a0 b0 B0 (ZE bd c0 l R T b0 (fun l' => lWs l' = lWs l ∧ lNx l < lNx l' ∧ (∀ s, aSign l' = some s → aStrength s ≤ wsStr (lWs l)))) (om o (fun i j a b v => m_Model_eval_b569 n g i j a b (nI s) v)) := by
  have hpg := PG_vr (c1 := c0) (l1 := l) (T := T) (T' := T) (ok := fun _ => True) hvr ht hv (fun e he => by rw [he] at hv; exact e13 hv) (fun G2 N2 F2 v2 he => by rw [hst G2 N2 F2 v2 he]; exact ⟨hN, rfl⟩) hI hN hdN h102 hw.1.2.1 hw.1.2.2.1 hw.1.2.2.2 (fun i2 G2 N2 F2 v2 he hq => rAs_G hw.1.2.2.1 (hq 118 (by decide)) (hq 103 (by decide)) (hq 104 (by decide))) hw.2 htp h107 hs trivial hu hfm hk7
  have hB0 : B0.1 ≤ 120000 ∧ B0.2.1 ≤ 300000 ∧ B0.2.2.1 ≤ 90000 ∧ B0.2.2.2 ≤ 90000 := by
    obtain ⟨⟨q1, q2, q3, q4, q5, q6, q7, q8⟩, _⟩ := hu
    omega
  refine PG_bind hpg To_refl (sameL_refl l) (rUp_refl hB0) rFm_refl kT7_refl (Nat.le_refl _) ?_ ?_
  · intro i6 j6 a6 b6 v6 B6 gu6 gf6 g1026 gz6
    obtain ⟨G6, N6, F6, got6, k1, k2, k3', k4, k5', k6, k7', k8', k9⟩ := gz6
    unfold m_Model_eval_b569
    rw [if_pos g1026]
    exact b580_l hn hE hsl hs4 hD hT k1 hs hws hnx k2 k4 k5' k6 g1026 k7' k9 gu6 gf6 (fun q hq => by rw [k8']; exact hk7 q hq)
  · intro i6 j6 a6 b6 v6 h6
    unfold m_Model_eval_b569
    rw [if_neg h6]
    exact ⟨3, rfl⟩

