/-! what a line doesn't touch doesn't matter to where it goes -/
def kS (ks : KS) (c : Cfg) : Cfg := (gSetKept c.1 ks, c.2)
def eK (ks : KS) (r : Except Nat (GS × Option Tr)) : Except Nat (GS × Option Tr) := match r with
  | .ok (g, v) => .ok (gSetKept g ks, v)
  | .error e => .error e
def fK (ks : KS) (r : Except Nat GS) : Except Nat GS := match r with
  | .ok g => .ok (gSetKept g ks)
  | .error e => .error e
theorem kI {c : Prop} [Decidable c] {x y x' y' : Cfg} {ks : KS} (h1 : x = kS ks x') (h2 : y = kS ks y') : (if c then x else y) = kS ks (if c then x' else y') := by
  split <;> assumption
theorem eI {c : Prop} [Decidable c] {x y x' y' : Except Nat (GS × Option Tr)} {ks : KS} (h1 : x = eK ks x') (h2 : y = eK ks y') : (if c then x else y) = eK ks (if c then x' else y') := by
  split <;> assumption
theorem fI {c : Prop} [Decidable c] {x y x' y' : Except Nat GS} {ks : KS} (h1 : x = fK ks x') (h2 : y = fK ks y') : (if c then x else y) = fK ks (if c then x' else y') := by
  split <;> assumption
theorem ek_fail (ks : KS) (e : Nat) (g : GS) (n : LN) (F : List Fr) (L : List Lv) : aFail e (gSetKept g ks) n F L = kS ks (aFail e g n F L) := by
  unfold aFail
  cases lvAt isErr L <;> rfl
theorem ek_take (ks : KS) (g : GS) (n : LN) (F : List Fr) (L : List Lv) (r : Rs) : aTake (gSetKept g ks) n F L r = kS ks (aTake g n F L r) := by
  cases r with
  | ok v => rfl
  | error e => exact ek_fail _ _ _ _ _ _
theorem ek_last (ks : KS) (g : GS) (n : LN) (F : List Fr) (L : List Lv) (w : Wt) : aSettleLast (gSetKept g ks) n F L w = kS ks (aSettleLast g n F L w) := by
  unfold aSettleLast
  refine kI rfl (kI (ek_fail _ _ _ _ _ _) ?_)
  cases L <;> rfl
theorem ek_meetW (ks : KS) (g : GS) (n : LN) (F : List Fr) (L : List Lv) (l : List Nat) : aMeetW (gSetKept g ks) n F L l = kS ks (aMeetW g n F L l) := by
  unfold aMeetW
  have e1 : gGlob (gSetKept g ks) = gGlob g := rfl
  have e2 : gProcs (gSetKept g ks) = gProcs g := rfl
  rw [e1, e2]
  refine kI (ek_take _ _ _ _ _ _) (kI (kI (ek_fail _ _ _ _ _ _) ?_) (kI ?_ (kI (ek_last _ _ _ _ _ _) (kI (ek_last _ _ _ _ _ _) (kI (ek_last _ _ _ _ _ _) (kI (ek_fail _ _ _ _ _ _) (ek_fail _ _ _ _ _ _)))))))
  · cases aFind F (gGlob g) l.tail
    · exact ek_fail _ _ _ _ _ _
    · exact ek_take _ _ _ _ _ _
  · cases pFind (gProcs g) l with
    | none => exact ek_fail _ _ _ _ _ _
    | some k =>
      dsimp only
      cases (gProcs g)[k]?
      · exact ek_fail _ _ _ _ _ _
      · exact ek_last _ _ _ _ _ _
theorem ek_meet (ks : KS) (g : GS) (n : LN) (F : List Fr) (l : Lv) (R : List Lv) : aMeet (gSetKept g ks) n F l R = kS ks (aMeet g n F l R) := by
  unfold aMeet
  cases (tMem (lLst l))[lNx l]? with
  | none => exact kI rfl (ek_fail _ _ _ _ _ _)
  | some m => exact kI (ek_meetW _ _ _ _ _ _) rfl
theorem ek_inner (ks : KS) (g : GS) (n : LN) (F : List Fr) (l : Lv) (R : List Lv) (got : Option Tr) : aInner (gSetKept g ks) n F l R got = kS ks (aInner g n F l R got) := by
  unfold aInner
  cases lWs l with
  | nil =>
    unfold aSettleWhole
    cases got with
    | none => rfl
    | some v => exact kI (ek_fail _ _ _ _ _ _) rfl
  | cons w ws =>
    refine kI ?_ ?_
    · unfold aClose
      cases (tMem (lLst l))[lNx l]? with
      | none => exact ek_fail _ _ _ _ _ _
      | some m => exact kI rfl (ek_fail _ _ _ _ _ _)
    · cases got with
      | none => exact ek_fail _ _ _ _ _ _
      | some v =>
        unfold aSupply
        exact kI rfl rfl
theorem ek_settle (ks : KS) (g : GS) (n : LN) (F : List Fr) (l : Lv) (R : List Lv) (got : Option Tr) : aSettle (gSetKept g ks) n F l R got = kS ks (aSettle g n F l R got) := by
  unfold aSettle
  cases aSign l with
  | none => exact ek_inner _ _ _ _ _ _ _
  | some s =>
    refine kI ?_ (ek_inner _ _ _ _ _ _ _)
    unfold aMeetSign
    cases got with
    | none => exact ek_fail _ _ _ _ _ _
    | some v => exact ek_last _ _ _ _ _ _
theorem ek_done (ks : KS) (g : GS) (n : LN) (F : List Fr) (l : Lv) (R : List Lv) (got : Option Tr) : aDone (gSetKept g ks) n F l R got = kS ks (aDone g n F l R got) := by
  unfold aDone
  refine kI rfl (kI (kI rfl rfl) (kI (kI rfl rfl) (kI rfl (kI ?_ (kI ?_ rfl)))))
  · unfold aTest
    cases got with
    | none => exact ek_fail _ _ _ _ _ _
    | some v => exact kI (ek_fail _ _ _ _ _ _) (kI rfl (kI rfl (ek_fail _ _ _ _ _ _)))
  · unfold aMapped
    cases got with
    | none => exact ek_fail _ _ _ _ _ _
    | some v => exact kI (ek_fail _ _ _ _ _ _) (kI rfl rfl)
theorem ek_micro (ks : KS) (c : Cfg) : aMicro (kS ks c) = kS ks (aMicro c) := by
  obtain ⟨g, n, F, L, ph, got, rd⟩ := c
  cases L with
  | nil => rfl
  | cons l R => exact kI (ek_meet _ _ _ _ _ _) (kI (ek_settle _ _ _ _ _ _ _) (ek_done _ _ _ _ _ _ _))
theorem ek_rG (ks : KS) (g : GS) (r : Except Nat GS) : rG (gSetKept g ks) (fK ks r) = eK ks (rG g r) := by
  cases r <;> rfl
theorem ek_fwd (ks : KS) (g : GS) (z : Int) : aFwd (gSetKept g ks) z = fK ks (aFwd g z) := by
  unfold aFwd
  refine fI rfl (fI rfl ?_)
  show Except.ok (set4 (if pI g (gTold g) 6 = 1 then _ else _) _) = fK ks (.ok (set4 (if pI g (gTold g) 6 = 1 then _ else _) _))
  split <;> rfl
theorem ek_turn (ks : KS) (g : GS) (b x : Int) : aTurn (gSetKept g ks) b x = fK ks (aTurn g b x) := by
  unfold aTurn
  exact fI rfl rfl
theorem ek_below (ks : KS) (g : GS) : aBelow (gSetKept g ks) = aBelow g := by
  unfold aBelow
  have t1 : gTold (gSetKept g ks) = gTold g := rfl
  have p1 : ∀ t k, pI (gSetKept g ks) t k = pI g t k := fun _ _ => rfl
  have d1 : gDots (gSetKept g ks) = gDots g := rfl
  simp only [t1, p1, d1]
theorem ek_turtle (ks : KS) (code : Nat) (x y : Int) (g : GS) : aTurtle code x y (gSetKept g ks) = eK ks (aTurtle code x y g) := by
  unfold aTurtle
  have t1 : gTold (gSetKept g ks) = gTold g := rfl
  have p1 : ∀ t k, pI (gSetKept g ks) t k = pI g t k := fun _ _ => rfl
  have sp : ∀ k v, setP (gSetKept g ks) k v = gSetKept (setP g k v) ks := fun _ _ => rfl
  have s4 : ∀ (g : GS) f, set4 (gSetKept g ks) f = gSetKept (set4 g f) ks := fun _ _ => rfl
  have sd : ∀ f, gSetDots (gSetKept g ks) f = gSetKept (gSetDots g f) ks := fun _ => rfl
  have st : ∀ f, gSetTold (gSetKept g ks) f = gSetKept (gSetTold g f) ks := fun _ => rfl
  simp only [t1, p1, sp, s4, sd, st, ek_fwd, ek_turn, ek_below, ek_rG]
  exact eI rfl (eI rfl (eI rfl (eI rfl (eI rfl (eI rfl (eI rfl (eI (eI rfl rfl) (eI rfl (eI (eI rfl rfl) (eI rfl (eI (eI rfl rfl) (eI rfl (eI rfl (eI rfl (eI rfl (eI rfl (eI rfl (eI rfl rfl))))))))))))))))))
theorem ek_number (ks : KS) (code : Nat) (x y : Int) (v u : Tr) (g : GS) : aNumber code x y v u (gSetKept g ks) = eK ks (aNumber code x y v u g) := by
  unfold aNumber
  have ret : ∀ (r : Except Nat Tr), (match r with
    | .ok t => (.ok (gSetKept g ks, some t) : Except Nat (GS × Option Tr))
    | .error e => .error e) = eK ks (match r with
    | .ok t => .ok (g, some t)
    | .error e => .error e) := fun r => by cases r <;> rfl
  have ss : gSeed (gSetKept g ks) = gSeed g := rfl
  have s5 : ∀ f, gSetSeed (gSetKept g ks) f = gSetKept (gSetSeed g f) ks := fun _ => rfl
  simp only [ss, s5]
  exact eI (ret _) (eI (ret _) (eI (ret _) (eI (eI rfl (ret _)) (eI (eI rfl (ret _)) (eI (ret _) (eI rfl (eI rfl (eI (eI rfl rfl) (eI rfl (eI rfl rfl))))))))))
theorem ek_retG (ks : KS) (g : GS) (n : LN) (F : List Fr) (L : List Lv) (r : Except Nat (GS × Option Tr)) : retG (gSetKept g ks) n F L (eK ks r) = kS ks (retG g n F L r) := by
  match r with
  | .ok (g', v) => rfl
  | .error e => exact ek_fail _ _ _ _ _ _
theorem ek_retM (ks : KS) (g : GS) (n : LN) (F : List Fr) (L : List Lv) (r : Except Nat (Nat × Tr)) : retM (gSetKept g ks) n F L r = kS ks (retM g n F L r) := by
  match r with
  | .ok (m, v) => rfl
  | .error e => exact ek_fail _ _ _ _ _ _
theorem ek_make (ks : KS) (w : Nm) (v : Tr) (g : GS) (n : LN) (F : List Fr) (L : List Lv) : (match aMake w v (gSetKept g ks) F with
    | .ok (g', F') => ((g', n, F', L, 1, none, none) : Cfg)
    | .error e => aFail e (gSetKept g ks) n F L) = kS ks (match aMake w v g F with
    | .ok (g', F') => (g', n, F', L, 1, none, none)
    | .error e => aFail e g n F L) := by
  unfold aMake
  have e1 : gGlob (gSetKept g ks) = gGlob g := rfl
  rw [e1]
  cases fGet F w with
  | some q => rfl
  | none =>
    dsimp only
    rcases Classical.em (300 < tSz v) with c | c
    · rw [if_pos c, if_pos c]; exact ek_fail _ _ _ _ _ _
    rw [if_neg c, if_neg c]
    cases gGet (gGlob g) w with
    | some q => rfl
    | none =>
      dsimp only
      rcases Classical.em (64 ≤ (gGlob g).length) with d | d
      · rw [if_pos d, if_pos d]; exact ek_fail _ _ _ _ _ _
      · rw [if_neg d, if_neg d]; rfl
theorem ek_other (ks : KS) (code : Nat) (v u : Tr) (g : GS) (n : LN) (F : List Fr) (L : List Lv) : aOther code v u (gSetKept g ks) n F L = kS ks (aOther code v u g n F L) := by
  unfold aOther
  have e1 : gGlob (gSetKept g ks) = gGlob g := rfl
  have e2 : gProcs (gSetKept g ks) = gProcs g := rfl
  rw [e1, e2]
  refine kI (ek_make _ _ _ _ _ _ _) (kI ?_ (kI ?_ (kI rfl (kI ?_ (kI rfl (kI ?_ (kI rfl (kI rfl rfl))))))))
  · cases aLocal (tLet v) F with
    | ok F' => rfl
    | error e => exact ek_fail _ _ _ _ _ _
  · cases aFind F (gGlob g) (tLet v) with
    | none => exact ek_fail _ _ _ _ _ _
    | some x => rfl
  · cases aDefine (tLet v) u (gProcs g) with
    | ok ps => rfl
    | error e => exact ek_fail _ _ _ _ _ _
  · cases pFind (gProcs g) (tLet v) with
    | none => exact ek_fail _ _ _ _ _ _
    | some k =>
      dsimp only
      cases (gProcs g)[k]?
      · exact ek_fail _ _ _ _ _ _
      · rfl
theorem ek_open (ks : KS) (g : GS) (n : LN) (F : List Fr) (L : List Lv) (l : Lv) : aOpen (gSetKept g ks) n F L l = kS ks (aOpen g n F L l) := by
  unfold aOpen
  exact kI (ek_fail _ _ _ _ _ _) rfl
theorem ek_running (ks : KS) (code : Nat) (v u z : Tr) (g : GS) (n : LN) (F : List Fr) (L : List Lv) : aRunning code v u z (gSetKept g ks) n F L = kS ks (aRunning code v u z g n F L) := by
  unfold aRunning
  refine kI (ek_open _ _ _ _ _ _) (kI (kI (ek_open _ _ _ _ _ _) rfl) (kI (ek_open _ _ _ _ _ _) (kI (kI rfl (ek_open _ _ _ _ _ _)) (kI rfl (kI (ek_open _ _ _ _ _ _) (kI (kI rfl (ek_open _ _ _ _ _ _)) (kI ?_ (kI (kI (ek_fail _ _ _ _ _ _) (kI rfl (kI (ek_fail _ _ _ _ _ _) rfl))) (kI (kI (ek_fail _ _ _ _ _ _) (kI (ek_fail _ _ _ _ _ _) rfl)) (kI ?_ (kI ?_ (kI (ek_open _ _ _ _ _ _) (kI ?_ rfl)))))))))))))
  · cases lvNewest 5 10 L with
    | none => exact ek_fail _ _ _ _ _ _
    | some l =>
      dsimp only
      cases (tMem (lOth l))[lTurns l - 1]?
      · exact ek_fail _ _ _ _ _ _
      · rfl
  · unfold aStop
    cases lvAt isCall L <;> rfl
  · unfold aOutput
    cases lvAt isCall L with
    | none => exact ek_fail _ _ _ _ _ _
    | some k => rfl
  · unfold aThrow
    cases lvAt (isTag (tLet v)) L with
    | none => exact ek_fail _ _ _ _ _ _
    | some k => rfl
theorem ek_do (ks : KS) (code : Nat) (vs : List Tr) (g : GS) (n : LN) (F : List Fr) (L : List Lv) : aDo code vs (gSetKept g ks) n F L = kS ks (aDo code vs g n F L) := by
  unfold aDo
  dsimp only
  rw [ek_turtle, ek_number]
  exact kI (ek_fail _ _ _ _ _ _) (kI (ek_retG _ _ _ _ _ _) (kI (ek_retG _ _ _ _ _ _) (kI (ek_retM _ _ _ _ _ _) (kI (ek_other _ _ _ _ _ _ _ _) (ek_running _ _ _ _ _ _ _ _ _)))))
theorem ek_apply (ks : KS) (c : Cfg) : aApply (kS ks c) = kS ks (aApply c) := by
  obtain ⟨g, n, F, L, ph, got, rd⟩ := c
  show (if ph = 4 then _ else _) = kS ks (if ph = 4 then _ else _)
  refine kI ?_ ?_
  · cases L <;> rfl
  · cases rd with
    | none => rfl
    | some w =>
      refine kI ?_ (ek_do _ _ _ _ _ _ _)
      unfold aCall
      exact kI (ek_fail _ _ _ _ _ _) rfl
theorem ek_step (ks : KS) (b : Nat) (c : Cfg) : aStep b (kS ks c) = kS ks (aStep b c) := by
  unfold aStep
  exact kI rfl (kI (ek_micro _ _) (kI rfl (kI rfl (ek_apply _ _))))
theorem ek_it (ks : KS) (b : Nat) : ∀ (j : Nat) (c : Cfg), aIt b j (kS ks c) = kS ks (aIt b j c) := by
  intro j
  induction j with
  | zero => intro c; rfl
  | succ j ih => intro c; rw [aIt, aIt, ek_step]; exact ih _
theorem kS_kS (k1 k2 : KS) (c : Cfg) : kS k1 (kS k2 c) = kS k1 c := rfl
theorem kS_self (c : Cfg) : kS (gKept c.1) c = c := rfl
theorem kS_begin (ks : KS) (G : GS) (l : Tr) : kS ks (aBegin G l) = aBegin (gSetKept G ks) l := rfl
theorem kS_stands (ks : KS) (b : Nat) (c : Cfg) : aStands b (kS ks c) ↔ aStands b c := Iff.rfl
theorem kS_rest (ks : KS) (c : Cfg) : atRest (kS ks c) ↔ atRest c := Iff.rfl
/-- what has been done with b instructions is done with more, on the same way -/
theorem path_up (b : Nat) : ∀ (j : Nat) (c : Cfg), ∃ j1, ∀ b', b ≤ b' → aIt b' j1 c = aIt b j c := by
  intro j
  induction j with
  | zero => intro c; exact ⟨0, fun _ _ => rfl⟩
  | succ j ih =>
    intro c
    rcases Classical.em (aStands b c) with h | h
    · exact ⟨0, fun b' _ => by rw [aIt_stands h]; rfl⟩
    · obtain ⟨j1, h1⟩ := ih (aStep b c)
      refine ⟨j1 + 1, fun b' hb => ?_⟩
      have e : aStep b' c = aStep b c := by
        unfold aStep
        rcases Classical.em (cSt c ≠ 1) with c1 | c1
        · rw [if_pos c1, if_pos c1]
        rw [if_neg c1, if_neg c1]
        rcases Classical.em (cPh c < 3) with c2 | c2
        · rw [if_pos c2, if_pos c2]
        rw [if_neg c2, if_neg c2]
        rcases Classical.em (20000 ≤ cDone c) with c3 | c3
        · rw [if_pos c3, if_pos c3]
        rw [if_neg c3, if_neg c3]
        have c4 : ¬ b ≤ cDone c := fun hh => h (Or.inr ⟨by omega, by omega, hh⟩)
        rcases Classical.em (b' ≤ cDone c) with c5 | c5
        · omega
        · rw [if_neg c4, if_neg c5]
      show aIt b' j1 (aStep b' c) = aIt b j (aStep b c)
      rw [e]
      exact h1 b' hb

