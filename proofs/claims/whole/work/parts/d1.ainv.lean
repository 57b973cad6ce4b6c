/-! what always holds goes on to hold -/
def lvBot (L : List Lv) : Prop := ∃ A l, L = A ++ [l] ∧ lK l = 0
theorem lvBot_ne {L : List Lv} (h : lvBot L) : L ≠ [] := by
  obtain ⟨A, l, rfl, _⟩ := h
  simp
theorem lvBot_cons {L : List Lv} {x : Lv} (h : lvBot L) : lvBot (x :: L) := by
  obtain ⟨A, l, rfl, h⟩ := h
  exact ⟨x :: A, l, rfl, h⟩
theorem lvBot_tl {L : List Lv} {x : Lv} (h : lvBot (x :: L)) (hL : L ≠ []) : lvBot L := by
  obtain ⟨A, l, e, h⟩ := h
  cases A with
  | nil => exact absurd (List.cons.inj e).2 hL
  | cons y A => exact ⟨A, l, (List.cons.inj e).2, h⟩
theorem lvBot_tail {L : List Lv} {x : Lv} (h : lvBot (x :: L)) (hx : lK x ≠ 0) : lvBot L := by
  obtain ⟨A, l, e, h⟩ := h
  cases A with
  | nil =>
    have := (List.cons.inj e).1
    rw [this] at hx
    exact absurd h hx
  | cons y A => exact ⟨A, l, (List.cons.inj e).2, h⟩
theorem lvBot_set {L : List Lv} {x y : Lv} (h : lvBot (x :: L)) (hx : lK x = 0 → lK y = 0) : lvBot (y :: L) := by
  obtain ⟨A, l, e, h⟩ := h
  cases A with
  | nil =>
    obtain ⟨e1, e2⟩ := List.cons.inj e
    subst e1
    exact ⟨[], y, by rw [e2]; rfl, hx h⟩
  | cons z A => exact ⟨y :: A, l, by rw [(List.cons.inj e).2]; rfl, h⟩
theorem lvBot_at {p : Lv → Bool} (hp : ∀ l, p l = true → lK l ≠ 0) : ∀ (L : List Lv) (k : Nat), lvAt p L = some k → lvBot L → lvBot (L.drop (k + 1)) := by
  intro L
  induction L with
  | nil => intro k h; cases h
  | cons x L ih =>
    intro k h hb
    rw [lvAt] at h
    split at h
    · next hx =>
      cases h
      exact lvBot_tail hb (hp x hx)
    · cases e : lvAt p L with
      | none => rw [e] at h; cases h
      | some j =>
        rw [e] at h
        cases h
        show lvBot (L.drop (j + 1))
        refine ih j e (lvBot_tl hb ?_)
        intro hL
        rw [hL] at e
        cases e
theorem lvTold_lt : ∀ (L : List Lv) (t : Nat), (∀ l ∈ L, lOk l) → t < 8 → lvTold L t < 8 := by
  intro L
  induction L with
  | nil => intro t _ ht; exact ht
  | cons x L ih =>
    intro t h ht
    rw [lvTold]
    apply ih _ (fun l hl => h l (List.mem_cons_of_mem _ hl))
    split
    · next h7 => exact (h x List.mem_cons_self).2.2.2.2.2.2.2.2.2.2.2.2.1 h7
    · exact ht
def IV (g : GS) (n : LN) (F : List Fr) (L : List Lv) : Prop := gOk g ∧ nOk n ∧ lvOk F L (nMade n) ∧ (nState n = 1 → lvBot L)
def aInv2 (c : Cfg) : Prop := aInv c ∧ (nState c.2.1 = 1 → lvBot c.2.2.2.1)
theorem iv_0 {g : GS} {n : LN} {F : List Fr} {L : List Lv} {got : Option Tr} {rd : Option Wt} (h : IV g n F L) : aInv2 (g, n, F, L, 0, got, rd) := ⟨⟨h.1, h.2.1, h.2.2.1, by decide, fun hs => ⟨lvBot_ne (h.2.2.2 hs), (fun e => by cases e), (fun e => by cases e), (fun e => by cases e)⟩⟩, h.2.2.2⟩
theorem iv_1 {g : GS} {n : LN} {F : List Fr} {L : List Lv} {got : Option Tr} {rd : Option Wt} (h : IV g n F L) : aInv2 (g, n, F, L, 1, got, rd) := ⟨⟨h.1, h.2.1, h.2.2.1, by decide, fun hs => ⟨lvBot_ne (h.2.2.2 hs), (fun e => by cases e), (fun e => by cases e), (fun e => by cases e)⟩⟩, h.2.2.2⟩
theorem iv_2 {g : GS} {n : LN} {F : List Fr} {l : Lv} {R : List Lv} {got : Option Tr} {rd : Option Wt} (h : IV g n F (l :: R)) (hw : lWs l = []) (hg : lK l < 6 → got = none) : aInv2 (g, n, F, l :: R, 2, got, rd) := ⟨⟨h.1, h.2.1, h.2.2.1, by decide, fun hs => ⟨lvBot_ne (h.2.2.2 hs), (fun e => by cases e), (fun e => by cases e), fun _ => ⟨l, R, rfl, hw, hg⟩⟩⟩, h.2.2.2⟩
theorem iv_3 {g : GS} {n : LN} {F : List Fr} {L : List Lv} {got : Option Tr} {w : Wt} (h : IV g n F L) (h1 : wOk w) (h2 : (wVals w).length = wNeed w) (h3 : wK w ≠ 4) : aInv2 (g, n, F, L, 3, got, some w) := ⟨⟨h.1, h.2.1, h.2.2.1, by decide, fun hs => ⟨lvBot_ne (h.2.2.2 hs), fun _ => ⟨w, rfl, h1, h2, h3⟩, (fun e => by cases e), (fun e => by cases e)⟩⟩, h.2.2.2⟩
theorem iv_4 {g : GS} {n : LN} {F : List Fr} {l : Lv} {R : List Lv} {got : Option Tr} {rd : Option Wt} (h : IV g n F (l :: R)) (h4 : (lK l = 3 ∧ lTurns l < lLim l) ∨ lK l = 4 ∨ ((lK l = 5 ∨ lK l = 10) ∧ lTurns l < (tMem (lOth l)).length)) : aInv2 (g, n, F, l :: R, 4, got, rd) := ⟨⟨h.1, h.2.1, h.2.2.1, by decide, fun hs => ⟨lvBot_ne (h.2.2.2 hs), (fun e => by cases e), fun _ => ⟨l, R, rfl, h4⟩, (fun e => by cases e)⟩⟩, h.2.2.2⟩
theorem iv_of {g : GS} {n : LN} {F : List Fr} {L : List Lv} {ph : Nat} {got : Option Tr} {rd : Option Wt} (h : aInv2 (g, n, F, L, ph, got, rd)) : IV g n F L := ⟨h.1.1, h.1.2.1, h.1.2.2.1, h.2⟩
theorem gOk_told {g : GS} {t : Nat} (h : gOk g) (ht : t < 8) : gOk (gSetTold g t) := ⟨ht, h.2⟩
theorem iv_finish {g : GS} {n : LN} {F : List Fr} {L : List Lv} {st e : Nat} (h : IV g n F L) (hs : st = 2 ∨ st = 3) (he : e ≤ 13) : aInv2 (aFinish st e g n L) := by
  obtain ⟨h1, ⟨n1, n2, n3, n4, n5⟩, h3, h4⟩ := h
  refine ⟨⟨gOk_told h1 (lvTold_lt L _ h3.1 h1.1), ⟨by show st ≤ 4; omega, he, n3, n4, n5⟩, ⟨(fun l hl => by cases hl), Nat.zero_le _, Nat.zero_le _, Nat.zero_le _, rfl, (fun l hl => by cases hl), (fun l hl => by cases hl)⟩, by show 1 ≤ 4; decide, fun e9 => ?_⟩, fun e9 => ?_⟩
  · have e9 : st = 1 := e9
    omega
  · have e9 : st = 1 := e9
    omega
theorem iv_leave {g : GS} {n : LN} {F : List Fr} {L : List Lv} {k : Nat} {got : Option Tr} (h : IV g n F L) (hb : nState n = 1 → lvBot (L.drop k)) : aInv2 (aLeave k g n F L got) := iv_1 ⟨gOk_told h.1 (lvTold_lt _ _ (fun l hl => h.2.2.1.1 l (List.mem_of_mem_take hl)) h.1.1), h.2.1, lvOk_leave h.2.2.1 k, hb⟩
theorem iv_fail {g : GS} {n : LN} {F : List Fr} {L : List Lv} {e : Nat} (h : IV g n F L) (he : e ≤ 13) : aInv2 (aFail e g n F L) := by
  unfold aFail
  split
  · exact iv_finish h (Or.inr rfl) he
  · next k hk =>
    obtain ⟨h1, ⟨n1, n2, n3, n4, n5⟩, h3, h4⟩ := h
    refine iv_leave (n := nSetCaught n e) ⟨h1, ⟨n1, n2, n3, n4, he⟩, h3, h4⟩ (fun hs => lvBot_at ?_ L k hk (h4 hs))
    intro l hl e9
    unfold isErr at hl
    rw [e9] at hl
    exact absurd hl (by simp)
theorem iv_take {g : GS} {n : LN} {F : List Fr} {L : List Lv} {r : Rs} (h : IV g n F L) (hr : rsOk r) : aInv2 (aTake g n F L r) := by
  unfold aTake
  cases r with
  | ok v => exact iv_1 h
  | error e => exact iv_fail h hr.2
theorem lvOk_set {F : List Fr} {l l' : Lv} {R : List Lv} {made made' : Nat} (h : lvOk F (l :: R) made) (hk : lK l = 1 ↔ lK l' = 1) (ho : lOk l') (hw : (lWs l').length + lvWaits R ≤ 400) (hm : (lVals l').length + mapVals R ≤ made') : lvOk F (l' :: R) made' := by
  obtain ⟨c1, c2, c3, c4, c5, c6, c7⟩ := h
  refine ⟨fun x hx => ?_, c2, hw, hm, ?_, c6, c7⟩
  · rcases List.mem_cons.mp hx with e | e
    · rw [e]; exact ho
    · exact c1 x (List.mem_cons_of_mem _ e)
  · rw [c5, lvCalls, lvCalls]
    by_cases h1 : lK l = 1
    · rw [if_pos h1, if_pos (hk.mp h1)]
    · rw [if_neg h1, if_neg (fun e => h1 (hk.mpr e))]
theorem iv_set {g : GS} {n n' : LN} {F : List Fr} {l l' : Lv} {R : List Lv} (h : IV g n F (l :: R)) (hn : nOk n') (hs : nState n' = nState n) (hk : lK l = lK l') (ho : lOk l') (hw : (lWs l').length + lvWaits R ≤ 400) (hm : (lVals l').length + mapVals R ≤ nMade n') : IV g n' F (l' :: R) := ⟨h.1, hn, lvOk_set h.2.2.1 (by rw [hk]) ho hw hm, fun e => lvBot_set (h.2.2.2 (by rw [← hs]; exact e)) (fun e9 => by rw [← hk]; exact e9)⟩
theorem lOk_nx {l : Lv} (h : lOk l) (hx : lNx l < (tMem (lLst l)).length) : lOk (lSetNx l (lNx l + 1)) := by
  obtain ⟨a1, a2, a3, a4, a5, a6, a7, a8, a9, a10, a11, a12, a13, a14, a15⟩ := h
  exact ⟨a1, a2, hx, a4, a5, a6, a7, a8, a9, a10, a11, a12, a13, a14, a15⟩
theorem lOk_ws2 {l : Lv} {ws : List Wt} (h : lOk l) (hx : ∀ w ∈ ws, wOk w ∧ (wVals w).length < wNeed w) : lOk (lSetWs l ws) := by
  obtain ⟨a1, a2, a3, a4, a5, a6, a7, a8, a9, a10, a11, a12, a13, a14, a15⟩ := h
  exact ⟨a1, a2, a3, a4, a5, a6, a7, a8, a9, a10, a11, a12, a13, a14, hx⟩
theorem iv_nx {g : GS} {n : LN} {F : List Fr} {l : Lv} {R : List Lv} (h : IV g n F (l :: R)) (hx : lNx l < (tMem (lLst l)).length) : IV g n F (lSetNx l (lNx l + 1) :: R) := iv_set h h.2.1 rfl rfl (lOk_nx (h.2.2.1.1 l List.mem_cons_self) hx) h.2.2.1.2.2.1 h.2.2.1.2.2.2.1
theorem iv_ws {g : GS} {n : LN} {F : List Fr} {l : Lv} {R : List Lv} {ws : List Wt} (h : IV g n F (l :: R)) (hx : ∀ w ∈ ws, wOk w ∧ (wVals w).length < wNeed w) (h4 : ws.length + lvWaits R ≤ 400) : IV g n F (lSetWs l ws :: R) := iv_set h h.2.1 rfl rfl (lOk_ws2 (h.2.2.1.1 l List.mem_cons_self) hx) h4 h.2.2.1.2.2.2.1
theorem iv_settleLast {g : GS} {n : LN} {F : List Fr} {L : List Lv} {w : Wt} (h : IV g n F L) (hw : wOk w) (hv : wNeed w = 0 ∨ (wVals w).length < wNeed w) : aInv2 (aSettleLast g n F L w) := by
  unfold aSettleLast
  split
  · next h0 => exact iv_3 h hw (by have := hw.2.1; omega) (fun e => by have := hw.2.2.2.2.2.2.2 e; omega)
  · next h0 =>
    split
    · exact iv_fail h (by decide)
    · next h4 =>
      split
      · exact iv_0 h
      · next l R =>
        refine iv_0 (iv_ws h ?_ ?_)
        · intro x hx
          rcases List.mem_cons.mp hx with e | e
          · rw [e]; exact ⟨hw, by omega⟩
          · exact (h.2.2.1.1 l List.mem_cons_self).2.2.2.2.2.2.2.2.2.2.2.2.2.2 x e
        · rw [lvWaits] at h4
          rw [List.length_cons]
          omega
theorem iv_meetW {g : GS} {n : LN} {F : List Fr} {L : List Lv} {l : List Nat} (h : IV g n F L) : aInv2 (aMeetW g n F L l) := by
  unfold aMeetW
  dsimp only
  split
  · exact iv_take h (aQuote_ok l)
  split
  · split
    · exact iv_fail h (by decide)
    · split
      · exact iv_fail h (by decide)
      · exact iv_1 h
  split
  · split
    · exact iv_fail h (by decide)
    · next k hk =>
      split
      · exact iv_fail h (by decide)
      · next p hp =>
        have hk9 : k < (gProcs g).length := by
          rcases Nat.lt_or_ge k (gProcs g).length with h9 | h9
          · exact h9
          · rw [List.getElem?_eq_none h9] at hp; cases hp
        have hm : p ∈ gProcs g := List.mem_of_getElem? hp
        obtain ⟨p1, p2, p3⟩ := h.1.2.2.1 p hm
        have h40 := h.1.2.1
        refine iv_settleLast h ⟨p1, Nat.zero_le _, by show 0 ≤ 4; decide, Or.inr (Or.inl rfl), (fun e => by cases e), fun _ => ⟨by show k < 40; omega, rfl, p2, p3⟩, by show k ≤ 85; omega, (fun e => by cases e)⟩ ?_
        show p.2.1.length = 0 ∨ 0 < p.2.1.length
        omega
  split
  · next h1 h2 h3 h4 =>
    have := aKind_le (aLex l)
    refine iv_settleLast h ⟨by show (aKind (aLex l)).length ≤ 5; omega, Nat.zero_le _, by show 0 ≤ 4; decide, Or.inl rfl, fun _ => ⟨by show 1 ≤ aLex l; omega, h4, rfl⟩, (fun e => by cases e), by show aLex l ≤ 85; omega, (fun e => by cases e)⟩ ?_
    show (aKind (aLex l)).length = 0 ∨ 0 < (aKind (aLex l)).length
    omega
  split
  · exact iv_settleLast h ⟨by show 1 ≤ 5; decide, Nat.zero_le _, by show 0 ≤ 4; decide, Or.inr (Or.inr rfl), (fun e => by cases e), (fun e => by cases e), by show 75 ≤ 85; decide, fun _ => rfl⟩ (Or.inr (by show 0 < 1; decide))
  split
  · exact iv_settleLast h ⟨by show 1 ≤ 5; decide, Nat.zero_le _, by show 4 ≤ 4; decide, Or.inl rfl, fun _ => ⟨by show 1 ≤ 25; decide, by show 25 ≤ 74; decide, rfl⟩, (fun e => by cases e), by show 25 ≤ 85; decide, (fun e => by cases e)⟩ (Or.inr (by show 0 < 1; decide))
  split
  · exact iv_fail h (by decide)
  · exact iv_fail h (by decide)
theorem iv_meet {g : GS} {n : LN} {F : List Fr} {l : Lv} {R : List Lv} (h : IV g n F (l :: R)) : aInv2 (aMeet g n F l R) := by
  unfold aMeet
  split
  · split
    · next hw => exact iv_2 h hw (fun _ => rfl)
    · exact iv_fail h (by decide)
  · next m hm =>
    have hx : lNx l < (tMem (lLst l)).length := by
      rcases Nat.lt_or_ge (lNx l) (tMem (lLst l)).length with h9 | h9
      · exact h9
      · rw [List.getElem?_eq_none h9] at hm; cases hm
    split
    · exact iv_meetW (iv_nx h hx)
    · exact iv_1 (iv_nx h hx)
theorem aSign_lt2 {l : Lv} {s : Nat} (h : aSign l = some s) : s < 7 ∧ lNx l < (tMem (lLst l)).length := by
  unfold aSign at h
  split at h
  · cases h
  · next m hm =>
    split at h
    · next h9 =>
      cases h
      refine ⟨by omega, ?_⟩
      rcases Nat.lt_or_ge (lNx l) (tMem (lLst l)).length with h8 | h8
      · exact h8
      · rw [List.getElem?_eq_none h8] at hm; cases hm
    · cases h
theorem sign_ok : ∀ s, s < 7 → 1 ≤ aSignWord s ∧ aSignWord s ≤ 74 ∧ 2 = (aKind (aSignWord s)).length ∧ aStrength s ≤ 4 := by decide
theorem iv_inner {g : GS} {n : LN} {F : List Fr} {l : Lv} {R : List Lv} {got : Option Tr} (h : IV g n F (l :: R)) : aInv2 (aInner g n F l R got) := by
  have ho := h.2.2.1.1 l List.mem_cons_self
  have hws := ho.2.2.2.2.2.2.2.2.2.2.2.2.2.2
  have h400 := h.2.2.1.2.2.1
  rw [lvWaits] at h400
  unfold aInner
  split
  · next hw =>
    unfold aSettleWhole
    split
    · exact iv_0 h
    · split
      · exact iv_fail h (by decide)
      · next h6 => exact iv_2 h hw (fun e => absurd (Or.inl e) h6)
  · next w ws hw =>
    rw [hw] at hws h400
    rw [List.length_cons] at h400
    split
    · unfold aClose
      split
      · exact iv_fail h (by decide)
      · next m hm =>
        split
        · have hx : lNx l < (tMem (lLst l)).length := by
            rcases Nat.lt_or_ge (lNx l) (tMem (lLst l)).length with h9 | h9
            · exact h9
            · rw [List.getElem?_eq_none h9] at hm; cases hm
          exact iv_1 (iv_ws (iv_nx h hx) (fun x hx => hws x (List.mem_cons_of_mem _ hx)) (by omega))
        · exact iv_fail h (by decide)
    · next h4 =>
      split
      · exact iv_fail h (by decide)
      · next v =>
        obtain ⟨o1, o2⟩ := hws w List.mem_cons_self
        obtain ⟨w1, w2, w3, w4, w5, w6, w7, w8⟩ := o1
        unfold aSupply
        dsimp only
        have hlen : (wVals w ++ [v]).length = (wVals w).length + 1 := by simp
        split
        · next hx =>
          refine iv_3 (iv_ws h (fun x hx => hws x (List.mem_cons_of_mem _ hx)) (by omega)) ⟨w1, by show (wVals w ++ [v]).length ≤ wNeed w; omega, w3, w4, w5, w6, w7, w8⟩ ?_ h4
          show (wVals w ++ [v]).length = wNeed w
          omega
        · next hx =>
          refine iv_0 (iv_ws h ?_ (by rw [List.length_cons]; omega))
          intro x hx9
          rcases List.mem_cons.mp hx9 with e | e
          · rw [e]
            exact ⟨⟨w1, by show (wVals w ++ [v]).length ≤ wNeed w; omega, w3, w4, w5, w6, w7, w8⟩, by show (wVals w ++ [v]).length < wNeed w; omega⟩
          · exact hws x (List.mem_cons_of_mem _ e)
theorem iv_settle {g : GS} {n : LN} {F : List Fr} {l : Lv} {R : List Lv} {got : Option Tr} (h : IV g n F (l :: R)) : aInv2 (aSettle g n F l R got) := by
  unfold aSettle
  split
  · next s hs =>
    obtain ⟨h7, hx⟩ := aSign_lt2 hs
    obtain ⟨q1, q2, q3, q4⟩ := sign_ok s h7
    split
    · unfold aMeetSign
      split
      · exact iv_fail h (by decide)
      · next v =>
        exact iv_settleLast (iv_nx h hx) ⟨by show 2 ≤ 5; decide, by show 1 ≤ 2; decide, q4, Or.inl rfl, fun _ => ⟨q1, q2, q3⟩, (fun e => by cases e), by show aSignWord s ≤ 85; omega, (fun e => by cases e)⟩ (Or.inr (by show 1 < 2; decide))
    · exact iv_inner h
  · exact iv_inner h
theorem iv_done {g : GS} {n : LN} {F : List Fr} {l : Lv} {R : List Lv} {got : Option Tr} (h : IV g n F (l :: R)) (hw : lWs l = []) : aInv2 (aDone g n F l R got) := by
  have ho := h.2.2.1.1 l List.mem_cons_self
  have leave : ∀ (got : Option Tr), ¬ lK l = 0 → aInv2 (aLeave 1 g n F (l :: R) got) := fun got h0 => iv_leave h (fun hs => lvBot_tail (h.2.2.2 hs) h0)
  obtain ⟨a1, a2, a3, a4, a5, a6, a7, a8, a9, a10, a11, a12, a13, a14, a15⟩ := id ho
  have h400 := h.2.2.1.2.2.1
  have hmv := h.2.2.1.2.2.2.1
  rw [lvWaits] at h400
  rw [mapVals] at hmv
  unfold aDone
  split
  · exact iv_finish h (Or.inl rfl) (by decide)
  next h0 =>
  split
  · next h3 =>
    split
    · next ht => exact iv_4 h (Or.inl ⟨h3, ht⟩)
    · exact leave none h0
  next h3 =>
  split
  · next h5 =>
    split
    · next ht => exact iv_4 h (Or.inr (Or.inr ⟨Or.inl h5, ht⟩))
    · exact leave none h0
  next h5 =>
  split
  · next h4 => exact iv_4 h (Or.inr (Or.inl h4))
  next h4 =>
  split
  · next h9 =>
    unfold aTest
    split
    · exact iv_fail h (by decide)
    · split
      · exact iv_fail h (by decide)
      · split
        · refine iv_0 ⟨h.1, h.2.1, lvOk_set h.2.2.1 (by rw [h9]; show 9 = 1 ↔ 4 = 1; decide) ?_ h400 hmv, fun hs => lvBot_cons (lvBot_tail (h.2.2.2 hs) h0)⟩
          exact ⟨by show 4 ≤ 10; decide, a9 (Or.inr (Or.inr (Or.inl h9))), Nat.zero_le _, a4, a5, a6, (fun e => by cases e), (fun e => by rcases e with e | e <;> cases e), fun _ => a2, (fun e => by cases e), fun _ => a11 (by rw [h9]; decide), (fun e => by cases e), (fun e => by cases e), (fun e => by cases e), a15⟩
        · split
          · exact leave none h0
          · exact iv_fail h (by decide)
  next h9 =>
  split
  · next h10 =>
    obtain ⟨m1, m2⟩ := a10 h10
    unfold aMapped
    split
    · exact iv_fail h (by decide)
    · next v =>
      split
      · exact iv_fail h (by decide)
      · next hv =>
        obtain ⟨n1, n2, n3, n4, n5⟩ := h.2.1
        have hn : nOk (nSetMade n (nMade n + 1)) := ⟨n1, n2, n3, by show nMade n + 1 ≤ 30000; omega, n5⟩
        split
        · next ht =>
          refine iv_4 (iv_set h hn rfl rfl ?_ h400 ?_) (Or.inr (Or.inr ⟨Or.inr h10, ht⟩))
          · refine ⟨a1, a2, a3, a4, a5, by show lLim l + tSz v ≤ _; omega, (fun e => by have e : lK l = 3 := e; omega), a8, a9, fun _ => ⟨by show lLim l + tSz v ≤ 600; omega, ?_⟩, fun e => absurd h10 e, a12, a13, a14, a15⟩
            show tSz (tL (lVals l ++ [v])) = lLim l + tSz v
            rw [← m2, tSz_tL, tSz_tL, List.map_append, List.sum_append]
            simp
            omega
          · show (lVals l ++ [v]).length + mapVals R ≤ nMade n + 1
            rw [List.length_append, List.length_singleton]
            omega
        · refine iv_leave (n := nSetMade n (nMade n + 1)) ⟨h.1, hn, ⟨h.2.2.1.1, h.2.2.1.2.1, h.2.2.1.2.2.1, ?_, h.2.2.1.2.2.2.2⟩, h.2.2.2⟩ (fun hs => lvBot_tail (h.2.2.2 hs) h0)
          show mapVals (l :: R) ≤ nMade n + 1
          rw [mapVals]
          omega
  · exact leave got h0
theorem iv_micro {c : Cfg} (h : aInv2 c) (hs : nState c.2.1 = 1) (hp : cPh c < 3) : aInv2 (aMicro c) := by
  obtain ⟨g, n, F, L, ph, got, rd⟩ := c
  have hi := iv_of h
  obtain ⟨⟨_, _, _, _, h5⟩, _⟩ := h
  obtain ⟨t1, t3, t4, t2⟩ := h5 hs
  cases L with
  | nil => exact absurd rfl t1
  | cons l R =>
    have hp : ph < 3 := hp
    show aInv2 (if ph = 0 then aMeet g n F l R else if ph = 1 then aSettle g n F l R got else aDone g n F l R got)
    split
    · exact iv_meet hi
    · split
      · exact iv_settle hi
      · obtain ⟨l', R', e, hw, _⟩ := t2 (by omega)
        cases e
        exact iv_done hi hw

