/-! what a line does not touch stays the same -/
def cKp (c : Cfg) : KS := gKept c.1
theorem kp_fail (e : Nat) (g : GS) (n : LN) (F : List Fr) (L : List Lv) : cKp (aFail e g n F L) = gKept g := by
  unfold aFail
  split <;> rfl
theorem kp_take (g : GS) (n : LN) (F : List Fr) (L : List Lv) (r : Rs) : cKp (aTake g n F L r) = gKept g := by
  unfold aTake
  split
  · rfl
  · exact kp_fail _ _ _ _ _
theorem kp_last (g : GS) (n : LN) (F : List Fr) (L : List Lv) (w : Wt) : cKp (aSettleLast g n F L w) = gKept g := by
  unfold aSettleLast
  repeat' split
  all_goals first | rfl | exact kp_fail _ _ _ _ _
theorem kp_meetW (g : GS) (n : LN) (F : List Fr) (L : List Lv) (l : List Nat) : cKp (aMeetW g n F L l) = gKept g := by
  unfold aMeetW
  dsimp only
  repeat' split
  all_goals first | exact kp_take _ _ _ _ _ | exact kp_fail _ _ _ _ _ | exact kp_last _ _ _ _ _
theorem kp_meet (g : GS) (n : LN) (F : List Fr) (l : Lv) (R : List Lv) : cKp (aMeet g n F l R) = gKept g := by
  unfold aMeet
  repeat' split
  all_goals first | rfl | exact kp_fail _ _ _ _ _ | exact kp_meetW _ _ _ _ _
theorem kp_inner (g : GS) (n : LN) (F : List Fr) (l : Lv) (R : List Lv) (got : Option Tr) : cKp (aInner g n F l R got) = gKept g := by
  unfold aInner aSettleWhole aClose aSupply
  dsimp only
  repeat' split
  all_goals first | rfl | exact kp_fail _ _ _ _ _
theorem kp_settle (g : GS) (n : LN) (F : List Fr) (l : Lv) (R : List Lv) (got : Option Tr) : cKp (aSettle g n F l R got) = gKept g := by
  unfold aSettle aMeetSign
  repeat' split
  all_goals first | exact kp_inner _ _ _ _ _ _ | exact kp_fail _ _ _ _ _ | exact kp_last _ _ _ _ _
theorem kp_done (g : GS) (n : LN) (F : List Fr) (l : Lv) (R : List Lv) (got : Option Tr) : cKp (aDone g n F l R got) = gKept g := by
  unfold aDone aTest aMapped
  repeat' split
  all_goals first | rfl | exact kp_fail _ _ _ _ _
theorem kp_micro (c : Cfg) : cKp (aMicro c) = cKp c := by
  obtain ⟨g, n, F, L, ph, got, rd⟩ := c
  cases L with
  | nil => rfl
  | cons l R =>
    show cKp (if ph = 0 then aMeet g n F l R else if ph = 1 then aSettle g n F l R got else aDone g n F l R got) = gKept g
    repeat' split
    · exact kp_meet _ _ _ _ _
    · exact kp_settle _ _ _ _ _ _
    · exact kp_done _ _ _ _ _ _
theorem kp_retG (g : GS) (n : LN) (F : List Fr) (L : List Lv) (r : Except Nat (GS × Option Tr)) (h : ∀ g' v, r = .ok (g', v) → gKept g' = gKept g) : cKp (retG g n F L r) = gKept g := by
  match r, h with
  | .ok (g', v), h => exact h g' v rfl
  | .error e, _ => exact kp_fail _ _ _ _ _
theorem kp_rG {g : GS} {r : Except Nat GS} (h : ∀ g', r = .ok g' → gKept g' = gKept g) : ∀ g' v, rG g r = .ok (g', v) → gKept g' = gKept g := by
  intro g' v e
  cases r with
  | ok g2 => cases e; exact h _ rfl
  | error k => cases e
theorem kp_fwd {g g' : GS} {z : Int} (e : aFwd g z = .ok g') : gKept g' = gKept g := by
  unfold aFwd at e
  split at e
  · cases e
  dsimp only at e
  generalize ht : (if (pI g (gTold g) 4).toNat < 6 then z else -z) = tm at e
  split at e
  · cases e
  cases e
  show gKept (if _ then _ else _) = gKept g
  split <;> rfl
theorem kp_turn {g g' : GS} {b z : Int} (e : aTurn g b z = .ok g') : gKept g' = gKept g := by
  unfold aTurn at e
  split at e
  · cases e
  · cases e; rfl
theorem kp_turtle (code : Nat) (x y : Int) (g : GS) : ∀ g' v, aTurtle code x y g = .ok (g', v) → gKept g' = gKept g := by
  intro g' v e
  unfold aTurtle at e
  dsimp only at e
  by_cases c1 : code = 1
  · rw [if_pos c1] at e
    exact kp_rG (fun _ h => kp_fwd h) _ _ e
  rw [if_neg c1] at e
  by_cases c2 : code = 2
  · rw [if_pos c2] at e
    exact kp_rG (fun _ h => kp_fwd h) _ _ e
  rw [if_neg c2] at e
  by_cases c3 : code = 3
  · rw [if_pos c3] at e
    exact kp_rG (fun _ h => kp_turn h) _ _ e
  rw [if_neg c3] at e
  by_cases c4 : code = 4
  · rw [if_pos c4] at e
    exact kp_rG (fun _ h => kp_turn h) _ _ e
  rw [if_neg c4] at e
  by_cases c5 : code = 5
  · rw [if_pos c5] at e
    exact kp_rG (fun _ h => kp_turn h) _ _ e
  rw [if_neg c5] at e
  by_cases c6 : code = 6
  · rw [if_pos c6] at e
    cases e; rfl
  rw [if_neg c6] at e
  by_cases c7 : code = 7
  · rw [if_pos c7] at e
    cases e; rfl
  rw [if_neg c7] at e
  by_cases c8 : code = 8
  · rw [if_pos c8] at e
    split at e
    · cases e
    · cases e; rfl
  rw [if_neg c8] at e
  by_cases c9 : code = 9
  · rw [if_pos c9] at e
    cases e; rfl
  rw [if_neg c9] at e
  by_cases c10 : code = 10
  · rw [if_pos c10] at e
    split at e
    · cases e
    · cases e; rfl
  rw [if_neg c10] at e
  by_cases c11 : code = 11
  · rw [if_pos c11] at e
    cases e; rfl
  rw [if_neg c11] at e
  by_cases c12 : code = 12
  · rw [if_pos c12] at e
    split at e
    · cases e
    · cases e; rfl
  rw [if_neg c12] at e
  by_cases c13 : code = 13
  · rw [if_pos c13] at e
    cases e; rfl
  rw [if_neg c13] at e
  by_cases c14 : code = 14
  · rw [if_pos c14] at e
    cases e; rfl
  rw [if_neg c14] at e
  by_cases c15 : code = 15
  · rw [if_pos c15] at e
    cases e; rfl
  rw [if_neg c15] at e
  by_cases c16 : code = 16
  · rw [if_pos c16] at e
    cases e; rfl
  rw [if_neg c16] at e
  by_cases c17 : code = 17
  · rw [if_pos c17] at e
    cases e; rfl
  rw [if_neg c17] at e
  by_cases c18 : code = 18
  · rw [if_pos c18] at e
    cases e; rfl
  rw [if_neg c18] at e
  split at e
  · cases e
  · cases e; rfl
theorem kp_number (code : Nat) (x y : Int) (v u : Tr) (g : GS) : ∀ g' w, aNumber code x y v u g = .ok (g', w) → gKept g' = gKept g := by
  intro g' w e
  have ret : ∀ z : Int, (match inB z with
    | .ok t => (.ok (g, some t) : Except Nat (GS × Option Tr))
    | .error e => .error e) = .ok (g', w) → gKept g' = gKept g := by
    intro z e9
    cases h : inB z with
    | ok t => rw [h] at e9; cases e9; rfl
    | error k => rw [h] at e9; cases e9
  unfold aNumber at e
  dsimp only at e
  by_cases c20 : code = 20
  · rw [if_pos c20] at e
    exact ret _ e
  rw [if_neg c20] at e
  by_cases c21 : code = 21
  · rw [if_pos c21] at e
    exact ret _ e
  rw [if_neg c21] at e
  by_cases c22 : code = 22
  · rw [if_pos c22] at e
    exact ret _ e
  rw [if_neg c22] at e
  by_cases c23 : code = 23
  · rw [if_pos c23] at e
    split at e
    · cases e
    · exact ret _ e
  rw [if_neg c23] at e
  by_cases c24 : code = 24
  · rw [if_pos c24] at e
    split at e
    · cases e
    · exact ret _ e
  rw [if_neg c24] at e
  by_cases c25 : code = 25
  · rw [if_pos c25] at e
    exact ret _ e
  rw [if_neg c25] at e
  by_cases c26 : code = 26
  · rw [if_pos c26] at e
    cases e; rfl
  rw [if_neg c26] at e
  by_cases c27 : code = 27
  · rw [if_pos c27] at e
    cases e; rfl
  rw [if_neg c27] at e
  by_cases c28 : code = 28
  · rw [if_pos c28] at e
    split at e
    · cases e
    · cases e; rfl
  rw [if_neg c28] at e
  by_cases c29 : code = 29
  · rw [if_pos c29] at e
    cases e; rfl
  rw [if_neg c29] at e
  by_cases c30 : code = 30
  · rw [if_pos c30] at e
    cases e; rfl
  rw [if_neg c30] at e
  cases e; rfl
theorem kp_retM (g : GS) (n : LN) (F : List Fr) (L : List Lv) (r : Except Nat (Nat × Tr)) : cKp (retM g n F L r) = gKept g := by
  unfold retM
  split
  · rfl
  · exact kp_fail _ _ _ _ _
theorem kp_open (g : GS) (n : LN) (F : List Fr) (L : List Lv) (l : Lv) : cKp (aOpen g n F L l) = gKept g := by
  unfold aOpen
  split
  · exact kp_fail _ _ _ _ _
  · rfl
theorem kp_other (code : Nat) (v u : Tr) (g : GS) (n : LN) (F : List Fr) (L : List Lv) : cKp (aOther code v u g n F L) = gKept g := by
  unfold aOther
  by_cases c50 : code = 50
  · rw [if_pos c50]
    unfold aMake
    cases fGet F (tLet v) with
    | some x => rfl
    | none =>
      dsimp only
      by_cases c : 300 < tSz u
      · rw [if_pos c]; exact kp_fail _ _ _ _ _
      · rw [if_neg c]
        cases gGet (gGlob g) (tLet v) with
        | some x => rfl
        | none =>
          dsimp only
          by_cases c2 : 64 ≤ (gGlob g).length
          · rw [if_pos c2]; exact kp_fail _ _ _ _ _
          · rw [if_neg c2]; rfl
  rw [if_neg c50]
  by_cases c51 : code = 51
  · rw [if_pos c51]
    split
    · rfl
    · exact kp_fail _ _ _ _ _
  rw [if_neg c51]
  by_cases c52 : code = 52
  · rw [if_pos c52]
    split
    · exact kp_fail _ _ _ _ _
    · rfl
  rw [if_neg c52]
  by_cases c53 : code = 53
  · rw [if_pos c53]
    rfl
  rw [if_neg c53]
  by_cases c54 : code = 54
  · rw [if_pos c54]
    split
    · rfl
    · exact kp_fail _ _ _ _ _
  rw [if_neg c54]
  by_cases c55 : code = 55
  · rw [if_pos c55]
    rfl
  rw [if_neg c55]
  by_cases c56 : code = 56
  · rw [if_pos c56]
    split
    · exact kp_fail _ _ _ _ _
    · split
      · exact kp_fail _ _ _ _ _
      · rfl
  rw [if_neg c56]
  by_cases c57 : code = 57
  · rw [if_pos c57]
    rfl
  rw [if_neg c57]
  by_cases c58 : code = 58
  · rw [if_pos c58]
    rfl
  rw [if_neg c58]
  rfl
theorem kp_running (code : Nat) (v u z : Tr) (g : GS) (n : LN) (F : List Fr) (L : List Lv) : cKp (aRunning code v u z g n F L) = gKept g := by
  unfold aRunning
  by_cases c60 : code = 60
  · rw [if_pos c60]
    exact kp_open _ _ _ _ _
  rw [if_neg c60]
  by_cases c61 : code = 61
  · rw [if_pos c61]
    split
    · exact kp_open _ _ _ _ _
    · rfl
  rw [if_neg c61]
  by_cases c62 : code = 62
  · rw [if_pos c62]
    exact kp_open _ _ _ _ _
  rw [if_neg c62]
  by_cases c63 : code = 63
  · rw [if_pos c63]
    split
    · rfl
    · exact kp_open _ _ _ _ _
  rw [if_neg c63]
  by_cases c64 : code = 64
  · rw [if_pos c64]
    rfl
  rw [if_neg c64]
  by_cases c65 : code = 65
  · rw [if_pos c65]
    exact kp_open _ _ _ _ _
  rw [if_neg c65]
  by_cases c66 : code = 66
  · rw [if_pos c66]
    split
    · rfl
    · exact kp_open _ _ _ _ _
  rw [if_neg c66]
  by_cases c67 : code = 67
  · rw [if_pos c67]
    split
    · exact kp_fail _ _ _ _ _
    · split
      · exact kp_fail _ _ _ _ _
      · rfl
  rw [if_neg c67]
  by_cases c68 : code = 68
  · rw [if_pos c68]
    split
    · exact kp_fail _ _ _ _ _
    · split
      · rfl
      · split
        · exact kp_fail _ _ _ _ _
        · rfl
  rw [if_neg c68]
  by_cases c69 : code = 69
  · rw [if_pos c69]
    split
    · exact kp_fail _ _ _ _ _
    · split
      · exact kp_fail _ _ _ _ _
      · rfl
  rw [if_neg c69]
  by_cases c70 : code = 70
  · rw [if_pos c70]
    unfold aStop
    split
    · rfl
    · rfl
  rw [if_neg c70]
  by_cases c71 : code = 71
  · rw [if_pos c71]
    unfold aOutput
    split
    · exact kp_fail _ _ _ _ _
    · rfl
  rw [if_neg c71]
  by_cases c72 : code = 72
  · rw [if_pos c72]
    exact kp_open _ _ _ _ _
  rw [if_neg c72]
  by_cases c73 : code = 73
  · rw [if_pos c73]
    unfold aThrow
    split
    · exact kp_fail _ _ _ _ _
    · rfl
  rw [if_neg c73]
  rfl
theorem kp_call (w : Wt) (g : GS) (n : LN) (F : List Fr) (L : List Lv) : cKp (aCall w g n F L) = gKept g := by
  unfold aCall
  split
  · exact kp_fail _ _ _ _ _
  · rfl
theorem kp_apply (c : Cfg) : cKp (aApply c) = cKp c := by
  obtain ⟨g, n, F, L, ph, got, rd⟩ := c
  unfold aApply
  dsimp only
  split
  · split <;> rfl
  · split
    · rfl
    · split
      · exact kp_call _ _ _ _ _
      · unfold aDo
        dsimp only
        split
        · exact kp_fail _ _ _ _ _
        split
        · exact kp_retG _ _ _ _ _ (kp_turtle _ _ _ _)
        split
        · exact kp_retG _ _ _ _ _ (kp_number _ _ _ _ _ _)
        split
        · exact kp_retM _ _ _ _ _
        split
        · exact kp_other _ _ _ _ _ _ _
        · exact kp_running _ _ _ _ _ _ _ _
theorem kp_step (b : Nat) (c : Cfg) : cKp (aStep b c) = cKp c := by
  unfold aStep
  split
  · rfl
  split
  · exact kp_micro c
  split
  · rfl
  split
  · rfl
  · exact kp_apply c
theorem kp_it (b : Nat) : ∀ (j : Nat) (c : Cfg), cKp (aIt b j c) = cKp c := by
  intro j
  induction j with
  | zero => intro c; rfl
  | succ j ih => intro c; rw [aIt, ih, kp_step]

