/-! what always holds of a line -/
def wOk (w : Wt) : Prop := wNeed w ≤ 5 ∧ (wVals w).length ≤ wNeed w ∧ wStr w ≤ 4 ∧ (wK w = 1 ∨ wK w = 2 ∨ wK w = 4) ∧ (wK w = 1 → 1 ≤ wCode w ∧ wCode w ≤ 74 ∧ wNeed w = (aKind (wCode w)).length) ∧ (wK w = 2 → wCode w < 40 ∧ (wNames w).length = wNeed w ∧ (wNames w).Nodup ∧ isL (wBody w) = true) ∧ wCode w ≤ 85 ∧ (wK w = 4 → wNeed w = 1)
def lOk (l : Lv) : Prop := lK l ≤ 10 ∧ isL (lLst l) = true ∧ lNx l ≤ (tMem (lLst l)).length ∧ 1 ≤ lTurns l ∧ lTurns l ≤ 1000000000 ∧ lLim l ≤ 1000000000 ∧ (lK l = 3 → lTurns l ≤ lLim l) ∧ (lK l = 5 ∨ lK l = 10 → lTurns l ≤ (tMem (lOth l)).length) ∧ (lK l = 4 ∨ lK l = 5 ∨ lK l = 9 ∨ lK l = 10 → isL (lOth l) = true) ∧ (lK l = 10 → lLim l ≤ 600 ∧ tSz (tL (lVals l)) = lLim l) ∧ (lK l ≠ 10 → lVals l = []) ∧ (lK l = 1 → lMark l < 40) ∧ (lK l = 7 → lMark l < 8) ∧ (lK l = 8 → isW (lTag l) = true) ∧ (∀ w ∈ lWs l, wOk w ∧ (wVals w).length < wNeed w)
def mapVals : List Lv → Nat
  | [] => 0
  | l :: L => (lVals l).length + mapVals L
def pOk (p : Proc) : Prop := p.2.1.length ≤ 5 ∧ p.2.1.Nodup ∧ isL p.2.2 = true
def gOk (g : GS) : Prop := gTold g < 8 ∧ (gProcs g).length ≤ 40 ∧ (∀ p ∈ gProcs g, pOk p) ∧ (gGlob g).length ≤ 64 ∧ (∀ t, t < 8 → (∀ k, k < 4 → -1000000 ≤ pI g t k ∧ pI g t k ≤ 1000000) ∧ 0 ≤ pI g t 4 ∧ pI g t 4 ≤ 11 ∧ 0 ≤ pI g t 5 ∧ pI g t 5 ≤ 7 ∧ (pI g t 6 = 0 ∨ pI g t 6 = 1)) ∧ (∀ k, k < 4096 → 0 ≤ (gDots g k).toInt ∧ (gDots g k).toInt ≤ 7)
def nOk (n : LN) : Prop := nState n ≤ 4 ∧ nErr n ≤ 13 ∧ nDone n ≤ 20000 ∧ nMade n ≤ 30000 ∧ nCaught n ≤ 13
def lvOk (F : List Fr) (L : List Lv) (made : Nat) : Prop := (∀ l ∈ L, lOk l) ∧ L.length ≤ 150 ∧ lvWaits L ≤ 400 ∧ mapVals L ≤ made ∧ F.length = lvCalls L ∧ (∀ f ∈ F, f.2.length ≤ 12) ∧ frNd F
def aInv (c : Cfg) : Prop := match c with
  | (g, n, F, L, ph, got, rd) => gOk g ∧ nOk n ∧ lvOk F L (nMade n) ∧ ph ≤ 4 ∧ (nState n = 1 → L ≠ [] ∧ (ph = 3 → ∃ w, rd = some w ∧ wOk w ∧ (wVals w).length = wNeed w ∧ wK w ≠ 4) ∧ (ph = 4 → ∃ l R, L = l :: R ∧ ((lK l = 3 ∧ lTurns l < lLim l) ∨ lK l = 4 ∨ ((lK l = 5 ∨ lK l = 10) ∧ lTurns l < (tMem (lOth l)).length))) ∧ (ph = 2 → ∃ l R, L = l :: R ∧ lWs l = [] ∧ (lK l < 6 → got = none)))
theorem lvCalls_le : ∀ L : List Lv, lvCalls L ≤ L.length := by
  intro L
  induction L with
  | nil => exact Nat.le_refl _
  | cons x L ih => rw [lvCalls]; simp only [List.length_cons]; split <;> omega
theorem frLocs_le {F : List Fr} (h : ∀ f ∈ F, f.2.length ≤ 12) : frLocs F ≤ 12 * F.length := by
  induction F with
  | nil => exact Nat.le_refl _
  | cons f F ih =>
    rw [frLocs]
    have := h f List.mem_cons_self
    have := ih (fun f hf => h f (List.mem_cons_of_mem _ hf))
    simp only [List.length_cons]
    omega
/-! leaving levels -/
def keepI (i i' : Nat → Int32) : Prop := ∀ q, q ≠ 13 → q ≠ 17 → q ≠ 40 → q ≠ 41 → q ≠ 42 → q ≠ 43 → i' q = i q
theorem rLoc_tail {f : Nat → Int32} {T : Nat} {cnt : Int32} {nm vl : Nat → Int32} {fr : Fr} {F : List Fr} (h : rLoc f T cnt nm vl (fr :: F)) : rLoc f T (nI (frLocs F)) nm vl F := by
  obtain ⟨h1, h2, h3⟩ := h
  rw [frLocs] at h2 h3
  refine ⟨rfl, by omega, fun k hk => ?_⟩
  have := h3 k (by omega)
  rw [fNm, fVl, if_neg (by omega), if_neg (by omega)] at this
  exact this
theorem h_leave_b {n : Nat} {g : Nat → Nat} {a : Nat → Nat → Int32} {T : Nat} {N : LN} : ∀ (k f : Nat) (i : Nat → Int32) (G : GS) (F : List Fr) (L : List Lv), CI g i a T G N F L → (∀ l ∈ L, lOk l) → L.length ≤ 150 → k ≤ L.length → k < f → ∃ i', m_Machine_leave_b10 n g f i a (nI (L.length - k)) (nI L.length - nI 1) = some (i', a, nI 0) ∧ keepI i i' ∧ CI g i' a T (gSetTold G (lvTold (L.take k) (gTold G))) N (F.drop (lvCalls (L.take k))) (L.drop k) ∧ (k = 0 → i' = i) ∧ (0 < k → i' 43 = nI (lvVals (L.drop k))) := by
  intro k
  induction k with
  | zero =>
    intro f i G F L h hl hL hk hf
    obtain ⟨f, rfl⟩ : ∃ f', f = f' + 1 := ⟨f - 1, by omega⟩
    refine ⟨i, ?_, fun _ _ _ _ _ _ _ => rfl, h, fun _ => rfl, fun h => by omega⟩
    rw [m_Machine_leave_b10, if_pos]
    · rfl
    · rw [Int32.lt_iff_toInt_lt, pk_sub_toInt (by omega) (by omega), nI_toInt (by omega)]
      omega
  | succ k ih =>
    intro f i G F L h hl hL hk hf
    obtain ⟨f, rfl⟩ : ∃ f', f = f' + 1 := ⟨f - 1, by omega⟩
    cases L with
    | nil => simp at hk
    | cons x R =>
      simp only [List.length_cons] at hL hk
      have hx := hl x List.mem_cons_self
      obtain ⟨hG, hW, hN, hF, ⟨e1, e2, e3, e4⟩⟩ := h
      rw [lvR] at e4
      obtain ⟨e5, e6⟩ := e4
      have e50 := e5
      obtain ⟨l1, l2, l3, l4, l5, l6, l7, l8, l9, l10, l11, l12⟩ := e50
      have hx1 := hx.1
      rw [show (x :: R).length = R.length + 1 from rfl, sub_n (by omega : 1 ≤ R.length + 1), show R.length + 1 - 1 = R.length by omega, show R.length + 1 - (k + 1) = R.length - k by omega, m_Machine_leave_b10]
      have hneg : nI R.length + -nI 1 = nI R.length - nI 1 := (Int32.sub_eq_add_neg _ _).symm
      rw [show (x :: R).take (k + 1) = x :: R.take k from rfl, show (x :: R).drop (k + 1) = R.drop k from rfl, lvTold, lvCalls]
      rcases Classical.em (lK x = 7) with h7 | h7
      · have h71 : ¬ lK x = 1 := by omega
        rw [if_neg h71] at e6
        have em := l7 (Or.inr h7)
        obtain ⟨i', q1, q2, q3, q4, q5⟩ := ih f (upd (upd (upd (upd i 17 (nI (lMark x))) 42 (nI (lvWaits R))) 43 (nI (lvVals R))) 40 (nI R.length)) (gSetTold G (lMark x)) F R ⟨hG, ⟨hW.1, hW.2.1, hW.2.2.1, hW.2.2.2.1, rfl, hW.2.2.2.2.2.1, hW.2.2.2.2.2.2⟩, hN, hF, ⟨rfl, by rw [lvCalls, if_neg h71, Nat.zero_add] at e2; exact e2, rfl, e6⟩⟩ (fun l h => hl l (List.mem_cons_of_mem _ h)) (by omega) (by omega) (by omega)
        refine ⟨i', ?_, ?_, ?_, fun h => by omega, fun _ => ?_⟩
        · simp (disch := omega) only [ob_s, ob0_s, ob1_s, i32_lit, ile_p, ile_n, ilt_p, ilt_n, ieq_p, ieq_n, ck_n, cl_n, sub_n, nI_add, sh_w, sh_l, an3_w, an3_l, an1_w, an1_l, hN_1, hN_3w, hN_3l, if_true, if_false, l1, h7, em, m_Machine_leave_b94, l9, l10, hneg]
          exact q1
        · intro q a1 a2 a3 a4 a5 a6
          rw [q2 q a1 a2 a3 a4 a5 a6, upd_ne a3, upd_ne a6, upd_ne a5, upd_ne a2]
        · rw [if_pos h7, if_neg h71, Nat.zero_add]
          exact q3
        · rcases Nat.eq_zero_or_pos k with h0 | h0
          · subst h0
            rw [q4 rfl]
            rfl
          · exact q5 h0
      rcases Classical.em (lK x = 1) with h1 | h1
      · rw [if_pos h1] at e6
        obtain ⟨fr, F', rfl, em, el, e7⟩ := e6
        have hF2 := rLoc_tail hF
        have hbd := hF.2.1
        rw [frLocs] at hbd
        rw [lvCalls, if_pos h1] at e2
        obtain ⟨i1, d1, d2, d3⟩ : ∃ i1, m_Names_dropLocals n g i a (nI (frLocs F')) = some (i1, a, nI 0) ∧ i1 13 = nI (frLocs F') ∧ (∀ q, q ≠ 13 → i1 q = i q) := by
          unfold m_Names_dropLocals
          have e13 := hF.1
          rw [frLocs] at e13
          rcases Nat.eq_zero_or_pos fr.2.length with h0 | h0
          · refine ⟨i, ?_, by rw [e13, h0, Nat.zero_add], fun _ _ => rfl⟩
            simp (disch := omega) only [ob_s, ob0_s, ob1_s, i32_lit, ile_p, ile_n, ilt_p, ilt_n, ieq_p, ieq_n, ck_n, cl_n, sub_n, nI_add, sh_w, sh_l, an3_w, an3_l, an1_w, an1_l, hN_1, hN_3w, hN_3l, if_true, if_false, e13]
          · refine ⟨upd i 13 (nI (frLocs F')), ?_, rfl, fun q hq => upd_ne hq⟩
            simp (disch := omega) only [ob_s, ob0_s, ob1_s, i32_lit, ile_p, ile_n, ilt_p, ilt_n, ieq_p, ieq_n, ck_n, cl_n, sub_n, nI_add, sh_w, sh_l, an3_w, an3_l, an1_w, an1_l, hN_1, hN_3w, hN_3l, if_true, if_false, e13]
        have c41 : i1 41 = nI (1 + lvCalls R) := by rw [d3 41 (by decide)]; exact e2
        have hk2 := lvCalls_le R
        obtain ⟨i', q1, q2, q3, q4, q5⟩ := ih f (upd (upd (upd (upd i1 41 (nI (lvCalls R))) 42 (nI (lvWaits R))) 43 (nI (lvVals R))) 40 (nI R.length)) G F' R ⟨by
            have e8 : i1 8 = i 8 := d3 8 (by decide)
            have e84 : i1 4 = i 4 := d3 4 (by decide)
            have e85 : i1 5 = i 5 := d3 5 (by decide)
            have e86 : i1 6 = i 6 := d3 6 (by decide)
            show i1 8 = _ ∧ (21 ≤ T ∧ sA (a 0) T = 0) ∧ T ≤ g 0 ∧ 16384 ≤ g 0 ∧ g 0 ≤ 340000 ∧ lexOk a ∧ cV (a 0) 21 (tW wTrue) none (i1 4) ∧ cV (a 0) 21 (tW wFalse) none (i1 5) ∧ cV (a 0) 21 (tW wError) none (i1 6)
            rw [e8, e84, e85, e86]
            exact hG, by
            show rGlob (a 0) T (i1 12) (a 10) (a 11) (gGlob G) ∧ rProc (a 0) T (i1 15) (a 15) (a 16) (a 17) (gProcs G) ∧ (∀ k, k < 56 → a 20 k = gParts G k) ∧ (∀ k, k < 4096 → a 21 k = gDots G k) ∧ i1 17 = nI (gTold G) ∧ outR (i1 19) (i1 20) (a 26) (gOut G) ∧ i1 45 = gSeed G ∧ kEx i1 a T G
            rw [d3 12 (by decide), d3 15 (by decide), d3 17 (by decide), d3 19 (by decide), d3 20 (by decide), d3 45 (by decide)]
            exact ⟨hW.1, hW.2.1, hW.2.2.1, hW.2.2.2.1, hW.2.2.2.2.1, hW.2.2.2.2.2.1, hW.2.2.2.2.2.2.1, kEx_i hW.2.2.2.2.2.2.2 (fun q hq => d3 q (by rintro rfl; revert hq; decide))⟩, by
            show i1 35 = _ ∧ i1 36 = _ ∧ i1 37 = _ ∧ i1 38 = _ ∧ i1 39 = _
            rw [d3 35 (by decide), d3 36 (by decide), d3 37 (by decide), d3 38 (by decide), d3 39 (by decide)]
            exact hN, by
            show rLoc (a 0) T (i1 13) (a 12) (a 13) F'
            rw [d2]
            exact hF2, ⟨rfl, rfl, rfl, e7⟩⟩ (fun l h => hl l (List.mem_cons_of_mem _ h)) (by omega) (by omega) (by omega)
        refine ⟨i', ?_, ?_, ?_, fun h => by omega, fun _ => ?_⟩
        · simp (disch := omega) only [ob_s, ob0_s, ob1_s, i32_lit, ile_p, ile_n, ilt_p, ilt_n, ieq_p, ieq_n, ck_n, cl_n, sub_n, nI_add, sh_w, sh_l, an3_w, an3_l, an1_w, an1_l, hN_1, hN_3w, hN_3l, if_true, if_false, l1, h1, el, d1, c41, m_Machine_leave_b94, l9, l10, hneg]
          rw [show 1 + lvCalls R - 1 = lvCalls R by omega]
          exact q1
        · intro q a1 a2 a3 a4 a5 a6
          rw [q2 q a1 a2 a3 a4 a5 a6, upd_ne a3, upd_ne a6, upd_ne a5, upd_ne a4, d3 q a1]
        · rw [if_neg h7, if_pos h1, show 1 + lvCalls (R.take k) = lvCalls (R.take k) + 1 by omega]
          exact q3
        · rcases Nat.eq_zero_or_pos k with h0 | h0
          · subst h0
            rw [q4 rfl]
            rfl
          · exact q5 h0
      · rw [if_neg h1] at e6
        rw [lvCalls, if_neg h1, Nat.zero_add] at e2
        obtain ⟨i', q1, q2, q3, q4, q5⟩ := ih f (upd (upd (upd i 42 (nI (lvWaits R))) 43 (nI (lvVals R))) 40 (nI R.length)) G F R ⟨hG, hW, hN, hF, ⟨rfl, e2, rfl, e6⟩⟩ (fun l h => hl l (List.mem_cons_of_mem _ h)) (by omega) (by omega) (by omega)
        refine ⟨i', ?_, ?_, ?_, fun h => by omega, fun _ => ?_⟩
        · simp (disch := omega) only [ob_s, ob0_s, ob1_s, i32_lit, ile_p, ile_n, ilt_p, ilt_n, ieq_p, ieq_n, ck_n, cl_n, sub_n, nI_add, sh_w, sh_l, an3_w, an3_l, an1_w, an1_l, hN_1, hN_3w, hN_3l, if_true, if_false, l1, m_Machine_leave_b94, l9, l10, hneg]
          exact q1
        · intro q a1 a2 a3 a4 a5 a6
          rw [q2 q a1 a2 a3 a4 a5 a6, upd_ne a3, upd_ne a6, upd_ne a5]
        · rw [if_neg h7, if_neg h1, Nat.zero_add]
          exact q3
        · rcases Nat.eq_zero_or_pos k with h0 | h0
          · subst h0
            rw [q4 rfl]
            rfl
          · exact q5 h0
theorem h_leave {n k : Nat} {g : Nat → Nat} {i : Nat → Int32} {a : Nat → Nat → Int32} {T : Nat} {G : GS} {N : LN} {F : List Fr} {L : List Lv} (hn : 200 ≤ n) (h : CI g i a T G N F L) (hl : ∀ l ∈ L, lOk l) (hL : L.length ≤ 150) (hk : k ≤ L.length) : ∃ i', m_Machine_leave n g i a (nI (L.length - k)) = some (i', a, nI 0) ∧ keepI i i' ∧ CI g i' a T (gSetTold G (lvTold (L.take k) (gTold G))) N (F.drop (lvCalls (L.take k))) (L.drop k) ∧ (k = 0 → i' = i) ∧ (0 < k → i' 43 = nI (lvVals (L.drop k))) := by
  obtain ⟨i', q1, q2⟩ := h_leave_b (n := n) k n i G F L h hl hL hk (by omega)
  refine ⟨i', ?_, q2⟩
  unfold m_Machine_leave
  have e := h.2.2.2.2.1
  simp only [ob1_s, i32_lit, e]
  exact q1

