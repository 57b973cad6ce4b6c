/-! instructions keep what always holds; steps that are no instruction come to an end -/
theorem iv_apply {G : GS} {N : LN} {F : List Fr} {L : List Lv} {ph : Nat} {got : Option Tr} {rd : Option Wt} (h : aInv2 (G, N, F, L, ph, got, rd)) (hs : nState N = 1) (hph : ph = 3 ∨ ph = 4) (hd : nDone N < 20000) (hb : ∀ w, rd = some w → ∀ v ∈ wVals w, isN v = true → -1000000000 ≤ tNum v ∧ tNum v ≤ 1000000000) (hb2 : ∀ l R, L = l :: R → (lK l = 5 ∨ lK l = 10) → (tMem (lOth l)).length ≤ 1000000000) : aInv2 (aApply (G, N, F, L, ph, got, rd)) := by
  have hi := iv_of h
  obtain ⟨⟨_, _, _, _, h5⟩, _⟩ := h
  obtain ⟨t1, t3, t4, t2⟩ := h5 hs
  have hi' : IV G (nSetDone N (nDone N + 1)) F L := by
    obtain ⟨a1, ⟨n1, n2, n3, n4, n5⟩, a3, a4⟩ := hi
    exact ⟨a1, ⟨n1, n2, by show nDone N + 1 ≤ 20000; omega, n4, n5⟩, a3, a4⟩
  rcases hph with rfl | rfl
  · obtain ⟨w, rfl, w1, w2, w3⟩ := t3 rfl
    have hb := hb w rfl
    unfold aApply
    dsimp only
    rw [if_neg (by decide)]
    by_cases hk : wK w = 2
    · rw [if_pos hk]; exact iv_call hi' hk w1 w2
    · rw [if_neg hk]
      have hk1 : wK w = 1 := by rcases w1.2.2.2.1 with h | h | h <;> omega
      obtain ⟨c1, c2, c3⟩ := w1.2.2.2.2.1 hk1
      unfold aDo
      dsimp only
      cases hf : aFits (aKind (wCode w)) (wVals w) with
      | false => rw [if_pos rfl]; exact iv_fail hi' (by decide)
      | true =>
        rw [if_neg (show ¬ true = false by decide)]
        by_cases g1 : wCode w ≤ 19
        · rw [if_pos g1]; exact iv_turtle hi'
        rw [if_neg g1]
        by_cases g2 : wCode w ≤ 31
        · rw [if_pos g2]; exact iv_number hi'
        rw [if_neg g2]
        by_cases g3 : wCode w ≤ 49
        · rw [if_pos g3]; exact iv_value hi'
        rw [if_neg g3]
        by_cases g4 : wCode w ≤ 59
        · rw [if_pos g4]; exact iv_other hi'
        rw [if_neg g4]
        exact iv_running hi' (by omega) c2 hf hb
  · obtain ⟨l, R, rfl, t5⟩ := t4 rfl
    have hl := hb2 l R rfl
    obtain ⟨a1, a2, a3, a4, a5, a6, a7, a8, a9, a10, a11, a12, a13, a14, a15⟩ := hi.2.2.1.1 l List.mem_cons_self
    have h400 := hi.2.2.1.2.2.1
    have hmv := hi.2.2.1.2.2.2.1
    rw [lvWaits] at h400
    rw [mapVals] at hmv
    unfold aApply
    dsimp only
    rw [if_pos rfl]
    unfold aTurnOn
    by_cases h4 : lK l = 4
    · rw [if_pos h4]
      refine iv_0 ⟨hi'.1, hi'.2.1, lvOk_set hi'.2.2.1 (by rw [h4]; show 4 = 1 ↔ 9 = 1; decide) ?_ h400 hmv, fun hs9 => lvBot_cons (lvBot_tail (hi.2.2.2 hs) (by omega))⟩
      exact ⟨by show 9 ≤ 10; decide, a9 (Or.inl h4), Nat.zero_le _, a4, a5, a6, (fun e => by cases e), (fun e => by rcases e with e | e <;> cases e), fun _ => a2, (fun e => by cases e), fun _ => a11 (by rw [h4]; decide), (fun e => by cases e), (fun e => by cases e), (fun e => by cases e), a15⟩
    · rw [if_neg h4]
      refine iv_0 (iv_set hi' hi'.2.1 rfl rfl ?_ h400 hmv)
      refine ⟨a1, a2, Nat.zero_le _, by show 1 ≤ lTurns l + 1; omega, ?_, a6, ?_, ?_, a9, a10, a11, a12, a13, a14, a15⟩
      · show lTurns l + 1 ≤ 1000000000
        rcases t5 with ⟨e1, e2⟩ | e | ⟨e1, e2⟩
        · omega
        · omega
        · have := hl e1; omega
      · intro e
        have e : lK l = 3 := e
        show lTurns l + 1 ≤ lLim l
        rcases t5 with ⟨e1, e2⟩ | e9 | ⟨e1, e2⟩ <;> omega
      · intro e
        have e : lK l = 5 ∨ lK l = 10 := e
        show lTurns l + 1 ≤ (tMem (lOth l)).length
        rcases t5 with ⟨e1, e2⟩ | e9 | ⟨e1, e2⟩ <;> omega
/-! how far it is to the next instruction, at most -/
def lM (l : Lv) : Nat := 1 + ((tMem (lLst l)).length - lNx l) + (if lK l = 9 then (tMem (lOth l)).length + 1 else 0)
def lvM : List Lv → Nat
  | [] => 0
  | l :: L => lM l + lvM L
def phM (ph : Nat) : Nat := if ph = 0 then 1 else if ph = 1 then 2 else 0
def cM (c : Cfg) : Nat := 3 * lvM c.2.2.2.1 + phM (cPh c)
/-- c comes after something that has this measure -/
def nearer (c : Cfg) (m : Nat) : Prop := cSt c = 1 → cPh c < 3 → cM c < m
theorem phM_le (p : Nat) : phM p ≤ 2 := by
  unfold phM
  split
  · decide
  · split <;> decide
theorem lvM_drop : ∀ (L : List Lv) (k : Nat), k < L.length → lvM (L.drop (k + 1)) + 1 ≤ lvM L := by
  intro L
  induction L with
  | nil => intro k h; cases h
  | cons l L ih =>
    intro k h
    rw [lvM]
    have h1 : 1 ≤ lM l := by unfold lM; omega
    cases k with
    | zero => show lvM L + 1 ≤ _; omega
    | succ k =>
      have := ih k (by simpa using h)
      show lvM (L.drop (k + 1)) + 1 ≤ _
      omega
theorem lvAt_lt2 {p : Lv → Bool} : ∀ (L : List Lv) (k : Nat), lvAt p L = some k → k < L.length := by
  intro L
  induction L with
  | nil => intro k h; cases h
  | cons x L ih =>
    intro k h
    rw [lvAt] at h
    split at h
    · cases h; exact Nat.zero_lt_succ _
    · cases e : lvAt p L with
      | none => rw [e] at h; cases h
      | some j =>
        rw [e] at h
        cases h
        have := ih j e
        rw [List.length_cons]
        show j + 1 < _
        omega
theorem nr_fail {e : Nat} {g : GS} {n : LN} {F : List Fr} {L : List Lv} {m : Nat} (h : 3 * lvM L ≤ m) : nearer (aFail e g n F L) m := by
  unfold aFail
  split
  · intro h1; cases h1
  · next k hk =>
    intro _ _
    have := lvM_drop L k (lvAt_lt2 L k hk)
    show 3 * lvM (L.drop (k + 1)) + 2 < m
    omega
theorem nr_leave {g : GS} {n : LN} {F : List Fr} {l : Lv} {R : List Lv} {got : Option Tr} {m : Nat} (h : 3 * lvM (l :: R) ≤ m) : nearer (aLeave 1 g n F (l :: R) got) m := by
  intro _ _
  have := lvM_drop (l :: R) 0 (by simp)
  show 3 * lvM ((l :: R).drop (0 + 1)) + 2 < m
  omega
theorem lM_nx {l : Lv} (hx : lNx l < (tMem (lLst l)).length) : lM (lSetNx l (lNx l + 1)) + 1 = lM l := by
  show 1 + ((tMem (lLst l)).length - (lNx l + 1)) + (if lK l = 9 then (tMem (lOth l)).length + 1 else 0) + 1 = 1 + ((tMem (lLst l)).length - lNx l) + (if lK l = 9 then (tMem (lOth l)).length + 1 else 0)
  omega
theorem nr_last {g : GS} {n : LN} {F : List Fr} {l : Lv} {R : List Lv} {w : Wt} {m : Nat} (h : 3 * lvM (l :: R) + 1 < m) : nearer (aSettleLast g n F (l :: R) w) m := by
  unfold aSettleLast
  split
  · intro _ h2; exact absurd h2 (by show ¬ 3 < 3; decide)
  · split
    · exact nr_fail (by omega)
    · intro _ _
      show 3 * lvM (lSetWs l (w :: lWs l) :: R) + 1 < m
      rw [lvM] at h ⊢
      exact h
theorem nr_meetW {g : GS} {n : LN} {F : List Fr} {l : Lv} {R : List Lv} {s : List Nat} {m : Nat} (h : 3 * lvM (l :: R) + 2 < m) : nearer (aMeetW g n F (l :: R) s) m := by
  have one : ∀ v, nearer (g, n, F, l :: R, 1, v, none) m := fun v _ _ => h
  have tk : ∀ r, nearer (aTake g n F (l :: R) r) m := by
    intro r
    cases r with
    | ok v => exact one v
    | error e => exact nr_fail (by omega)
  unfold aMeetW
  dsimp only
  split
  · exact tk _
  split
  · split
    · exact nr_fail (by omega)
    · split
      · exact nr_fail (by omega)
      · exact tk _
  split
  · split
    · exact nr_fail (by omega)
    · split
      · exact nr_fail (by omega)
      · exact nr_last (by omega)
  split
  · exact nr_last (by omega)
  split
  · exact nr_last (by omega)
  split
  · exact nr_last (by omega)
  split
  · exact nr_fail (by omega)
  · exact nr_fail (by omega)
theorem getE_lt {α : Type} {l : List α} {k : Nat} {m : α} (h : l[k]? = some m) : k < l.length := by
  rcases Nat.lt_or_ge k l.length with h9 | h9
  · exact h9
  · rw [List.getElem?_eq_none h9] at h; cases h
theorem nr_meet {g : GS} {n : LN} {F : List Fr} {l : Lv} {R : List Lv} : nearer (aMeet g n F l R) (3 * lvM (l :: R) + 1) := by
  unfold aMeet
  split
  · split
    · intro _ _
      show 3 * lvM (l :: R) + 0 < _
      omega
    · exact nr_fail (by omega)
  · next m hm =>
    have := lM_nx (getE_lt hm)
    have e : 3 * lvM (lSetNx l (lNx l + 1) :: R) + 2 < 3 * lvM (l :: R) + 1 := by
      rw [lvM, lvM]
      omega
    split
    · exact nr_meetW e
    · intro _ _
      exact e
theorem nr_inner {g : GS} {n : LN} {F : List Fr} {l : Lv} {R : List Lv} {got : Option Tr} : nearer (aInner g n F l R got) (3 * lvM (l :: R) + 2) := by
  unfold aInner
  split
  · unfold aSettleWhole
    split
    · intro _ _
      show 3 * lvM (l :: R) + 1 < _
      omega
    · split
      · exact nr_fail (by omega)
      · intro _ _
        show 3 * lvM (l :: R) + 0 < _
        omega
  · next w ws hw =>
    split
    · unfold aClose
      split
      · exact nr_fail (by omega)
      · next m hm =>
        split
        · have := lM_nx (getE_lt hm)
          intro _ _
          show 3 * lvM (lSetWs (lSetNx l (lNx l + 1)) ws :: R) + 2 < _
          rw [lvM, lvM]
          have e : lM (lSetWs (lSetNx l (lNx l + 1)) ws) = lM (lSetNx l (lNx l + 1)) := rfl
          omega
        · exact nr_fail (by omega)
    · split
      · exact nr_fail (by omega)
      · unfold aSupply
        dsimp only
        split
        · intro _ h2; exact absurd h2 (by show ¬ 3 < 3; decide)
        · intro _ _
          show 3 * (lM l + lvM R) + 1 < 3 * (lM l + lvM R) + 2
          omega
theorem nr_settle {g : GS} {n : LN} {F : List Fr} {l : Lv} {R : List Lv} {got : Option Tr} : nearer (aSettle g n F l R got) (3 * lvM (l :: R) + 2) := by
  unfold aSettle
  split
  · next s hs =>
    obtain ⟨h7, hx⟩ := aSign_lt2 hs
    split
    · unfold aMeetSign
      split
      · exact nr_fail (by omega)
      · have := lM_nx hx
        refine nr_last ?_
        rw [lvM, lvM]
        omega
    · exact nr_inner
  · exact nr_inner
theorem nr_done {g : GS} {n : LN} {F : List Fr} {l : Lv} {R : List Lv} {got : Option Tr} : nearer (aDone g n F l R got) (3 * lvM (l :: R)) := by
  have t4 : ∀ (n : LN) (l : Lv), nearer (g, n, F, l :: R, 4, none, none) (3 * lvM (l :: R)) := fun n l _ h2 => absurd h2 (by show ¬ 4 < 3; decide)
  unfold aDone
  split
  · intro h1; cases h1
  split
  · split
    · exact t4 n l
    · exact nr_leave (Nat.le_refl _)
  split
  · split
    · exact t4 n l
    · exact nr_leave (Nat.le_refl _)
  split
  · exact t4 n l
  split
  · next h9 =>
    unfold aTest
    split
    · exact nr_fail (Nat.le_refl _)
    · split
      · exact nr_fail (Nat.le_refl _)
      · split
        · intro _ _
          have e1 : lM (aChange l 4) = 1 + ((tMem (lOth l)).length - 0) + 0 := rfl
          have e2 : lM l = 1 + ((tMem (lLst l)).length - lNx l) + ((tMem (lOth l)).length + 1) := by unfold lM; rw [if_pos h9]
          show 3 * lvM (aChange l 4 :: R) + 1 < 3 * lvM (l :: R)
          rw [lvM, lvM]
          omega
        · split
          · exact nr_leave (Nat.le_refl _)
          · exact nr_fail (Nat.le_refl _)
  split
  · unfold aMapped
    split
    · exact nr_fail (Nat.le_refl _)
    · split
      · exact nr_fail (Nat.le_refl _)
      · split
        · intro _ h2; exact absurd h2 (by show ¬ 4 < 3; decide)
        · exact nr_leave (Nat.le_refl _)
  · exact nr_leave (Nat.le_refl _)
theorem nr_micro {c : Cfg} (h : aInv2 c) (hs : cSt c = 1) (hp : cPh c < 3) : nearer (aMicro c) (cM c) := by
  obtain ⟨g, n, F, L, ph, got, rd⟩ := c
  obtain ⟨⟨_, _, _, _, h5⟩, _⟩ := h
  obtain ⟨t1, t3, t4, t2⟩ := h5 hs
  cases L with
  | nil => exact absurd rfl t1
  | cons l R =>
    have hp : ph < 3 := hp
    show nearer (if ph = 0 then aMeet g n F l R else if ph = 1 then aSettle g n F l R got else aDone g n F l R got) (3 * lvM (l :: R) + phM ph)
    rcases (by omega : ph = 0 ∨ ph = 1 ∨ ph = 2) with rfl | rfl | rfl
    · exact nr_meet
    · exact nr_settle
    · exact nr_done

