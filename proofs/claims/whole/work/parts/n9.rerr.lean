/-! a line that runs has no error -/
def eR (c : Cfg) (n : LN) : Prop := (nState c.2.1 ≠ 1 ∧ nState c.2.1 ≠ 0) ∨ (nErr c.2.1 = nErr n ∧ nState c.2.1 = nState n)

theorem er_fail (e : Nat) (g : GS) (n : LN) (F : List Fr) (L : List Lv) : eR (aFail e g n F L) n := by
  unfold aFail
  split <;> (first | exact Or.inr ⟨rfl, rfl⟩ | exact Or.inl (show (2 : Nat) ≠ 1 ∧ (2 : Nat) ≠ 0 from by decide) | exact Or.inl (show (3 : Nat) ≠ 1 ∧ (3 : Nat) ≠ 0 from by decide))
theorem er_take (g : GS) (n : LN) (F : List Fr) (L : List Lv) (r : Rs) : eR (aTake g n F L r) n := by
  unfold aTake
  split
  · (first | exact Or.inr ⟨rfl, rfl⟩ | exact Or.inl (show (2 : Nat) ≠ 1 ∧ (2 : Nat) ≠ 0 from by decide) | exact Or.inl (show (3 : Nat) ≠ 1 ∧ (3 : Nat) ≠ 0 from by decide))
  · exact er_fail _ _ _ _ _
theorem er_last (g : GS) (n : LN) (F : List Fr) (L : List Lv) (w : Wt) : eR (aSettleLast g n F L w) n := by
  unfold aSettleLast
  repeat' split
  all_goals first | exact Or.inr ⟨rfl, rfl⟩ | exact Or.inl (show (2 : Nat) ≠ 1 ∧ (2 : Nat) ≠ 0 from by decide) | exact Or.inl (show (3 : Nat) ≠ 1 ∧ (3 : Nat) ≠ 0 from by decide) | exact er_fail _ _ _ _ _
theorem er_meetW (g : GS) (n : LN) (F : List Fr) (L : List Lv) (l : List Nat) : eR (aMeetW g n F L l) n := by
  unfold aMeetW
  dsimp only
  repeat' split
  all_goals first | exact er_take _ _ _ _ _ | exact er_fail _ _ _ _ _ | exact er_last _ _ _ _ _
theorem er_meet (g : GS) (n : LN) (F : List Fr) (l : Lv) (R : List Lv) : eR (aMeet g n F l R) n := by
  unfold aMeet
  repeat' split
  all_goals first | exact Or.inr ⟨rfl, rfl⟩ | exact Or.inl (show (2 : Nat) ≠ 1 ∧ (2 : Nat) ≠ 0 from by decide) | exact Or.inl (show (3 : Nat) ≠ 1 ∧ (3 : Nat) ≠ 0 from by decide) | exact er_fail _ _ _ _ _ | exact er_meetW _ _ _ _ _
theorem er_inner (g : GS) (n : LN) (F : List Fr) (l : Lv) (R : List Lv) (got : Option Tr) : eR (aInner g n F l R got) n := by
  unfold aInner aSettleWhole aClose aSupply
  dsimp only
  repeat' split
  all_goals first | exact Or.inr ⟨rfl, rfl⟩ | exact Or.inl (show (2 : Nat) ≠ 1 ∧ (2 : Nat) ≠ 0 from by decide) | exact Or.inl (show (3 : Nat) ≠ 1 ∧ (3 : Nat) ≠ 0 from by decide) | exact er_fail _ _ _ _ _
theorem er_settle (g : GS) (n : LN) (F : List Fr) (l : Lv) (R : List Lv) (got : Option Tr) : eR (aSettle g n F l R got) n := by
  unfold aSettle aMeetSign
  repeat' split
  all_goals first | exact er_inner _ _ _ _ _ _ | exact er_fail _ _ _ _ _ | exact er_last _ _ _ _ _
theorem er_done (g : GS) (n : LN) (F : List Fr) (l : Lv) (R : List Lv) (got : Option Tr) : eR (aDone g n F l R got) n := by
  unfold aDone aTest aMapped
  repeat' split
  all_goals first | exact Or.inr ⟨rfl, rfl⟩ | exact Or.inl (show (2 : Nat) ≠ 1 ∧ (2 : Nat) ≠ 0 from by decide) | exact Or.inl (show (3 : Nat) ≠ 1 ∧ (3 : Nat) ≠ 0 from by decide) | exact er_fail _ _ _ _ _
theorem er_micro (c : Cfg) : eR (aMicro c) c.2.1 := by
  obtain ⟨g, n, F, L, ph, got, rd⟩ := c
  cases L with
  | nil => exact Or.inr ⟨rfl, rfl⟩
  | cons l R =>
    show eR (if ph = 0 then aMeet g n F l R else if ph = 1 then aSettle g n F l R got else aDone g n F l R got) n
    repeat' split
    · exact er_meet _ _ _ _ _
    · exact er_settle _ _ _ _ _ _
    · exact er_done _ _ _ _ _ _
theorem er_retG (g : GS) (n : LN) (F : List Fr) (L : List Lv) (r : Except Nat (GS × Option Tr)) : eR (retG g n F L r) n := by
  match r with
  | .ok (g', v) => exact Or.inr ⟨rfl, rfl⟩
  | .error e => exact er_fail _ _ _ _ _
theorem er_retM (g : GS) (n : LN) (F : List Fr) (L : List Lv) (r : Except Nat (Nat × Tr)) : eR (retM g n F L r) n := by
  unfold retM
  split
  · (first | exact Or.inr ⟨rfl, rfl⟩ | exact Or.inl (show (2 : Nat) ≠ 1 ∧ (2 : Nat) ≠ 0 from by decide) | exact Or.inl (show (3 : Nat) ≠ 1 ∧ (3 : Nat) ≠ 0 from by decide))
  · exact er_fail _ _ _ _ _
theorem er_open (g : GS) (n : LN) (F : List Fr) (L : List Lv) (l : Lv) : eR (aOpen g n F L l) n := by
  unfold aOpen
  split
  · exact er_fail _ _ _ _ _
  · (first | exact Or.inr ⟨rfl, rfl⟩ | exact Or.inl (show (2 : Nat) ≠ 1 ∧ (2 : Nat) ≠ 0 from by decide) | exact Or.inl (show (3 : Nat) ≠ 1 ∧ (3 : Nat) ≠ 0 from by decide))
theorem er_other (code : Nat) (v u : Tr) (g : GS) (n : LN) (F : List Fr) (L : List Lv) : eR (aOther code v u g n F L) n := by
  unfold aOther
  by_cases c50 : code = 50
  · rw [if_pos c50]
    unfold aMake
    cases fGet F (tLet v) with
    | some x => exact Or.inr ⟨rfl, rfl⟩
    | none =>
      dsimp only
      by_cases c : 300 < tSz u
      · rw [if_pos c]; exact er_fail _ _ _ _ _
      · rw [if_neg c]
        cases gGet (gGlob g) (tLet v) with
        | some x => exact Or.inr ⟨rfl, rfl⟩
        | none =>
          dsimp only
          by_cases c2 : 64 ≤ (gGlob g).length
          · rw [if_pos c2]; exact er_fail _ _ _ _ _
          · rw [if_neg c2]; exact Or.inr ⟨rfl, rfl⟩
  rw [if_neg c50]
  by_cases c51 : code = 51
  · rw [if_pos c51]
    split
    · (first | exact Or.inr ⟨rfl, rfl⟩ | exact Or.inl (show (2 : Nat) ≠ 1 ∧ (2 : Nat) ≠ 0 from by decide) | exact Or.inl (show (3 : Nat) ≠ 1 ∧ (3 : Nat) ≠ 0 from by decide))
    · exact er_fail _ _ _ _ _
  rw [if_neg c51]
  by_cases c52 : code = 52
  · rw [if_pos c52]
    split
    · exact er_fail _ _ _ _ _
    · (first | exact Or.inr ⟨rfl, rfl⟩ | exact Or.inl (show (2 : Nat) ≠ 1 ∧ (2 : Nat) ≠ 0 from by decide) | exact Or.inl (show (3 : Nat) ≠ 1 ∧ (3 : Nat) ≠ 0 from by decide))
  rw [if_neg c52]
  by_cases c53 : code = 53
  · rw [if_pos c53]
    (first | exact Or.inr ⟨rfl, rfl⟩ | exact Or.inl (show (2 : Nat) ≠ 1 ∧ (2 : Nat) ≠ 0 from by decide) | exact Or.inl (show (3 : Nat) ≠ 1 ∧ (3 : Nat) ≠ 0 from by decide))
  rw [if_neg c53]
  by_cases c54 : code = 54
  · rw [if_pos c54]
    split
    · (first | exact Or.inr ⟨rfl, rfl⟩ | exact Or.inl (show (2 : Nat) ≠ 1 ∧ (2 : Nat) ≠ 0 from by decide) | exact Or.inl (show (3 : Nat) ≠ 1 ∧ (3 : Nat) ≠ 0 from by decide))
    · exact er_fail _ _ _ _ _
  rw [if_neg c54]
  by_cases c55 : code = 55
  · rw [if_pos c55]
    (first | exact Or.inr ⟨rfl, rfl⟩ | exact Or.inl (show (2 : Nat) ≠ 1 ∧ (2 : Nat) ≠ 0 from by decide) | exact Or.inl (show (3 : Nat) ≠ 1 ∧ (3 : Nat) ≠ 0 from by decide))
  rw [if_neg c55]
  by_cases c56 : code = 56
  · rw [if_pos c56]
    split
    · exact er_fail _ _ _ _ _
    · split
      · exact er_fail _ _ _ _ _
      · (first | exact Or.inr ⟨rfl, rfl⟩ | exact Or.inl (show (2 : Nat) ≠ 1 ∧ (2 : Nat) ≠ 0 from by decide) | exact Or.inl (show (3 : Nat) ≠ 1 ∧ (3 : Nat) ≠ 0 from by decide))
  rw [if_neg c56]
  by_cases c57 : code = 57
  · rw [if_pos c57]
    (first | exact Or.inr ⟨rfl, rfl⟩ | exact Or.inl (show (2 : Nat) ≠ 1 ∧ (2 : Nat) ≠ 0 from by decide) | exact Or.inl (show (3 : Nat) ≠ 1 ∧ (3 : Nat) ≠ 0 from by decide))
  rw [if_neg c57]
  by_cases c58 : code = 58
  · rw [if_pos c58]
    (first | exact Or.inr ⟨rfl, rfl⟩ | exact Or.inl (show (2 : Nat) ≠ 1 ∧ (2 : Nat) ≠ 0 from by decide) | exact Or.inl (show (3 : Nat) ≠ 1 ∧ (3 : Nat) ≠ 0 from by decide))
  rw [if_neg c58]
  (first | exact Or.inr ⟨rfl, rfl⟩ | exact Or.inl (show (2 : Nat) ≠ 1 ∧ (2 : Nat) ≠ 0 from by decide) | exact Or.inl (show (3 : Nat) ≠ 1 ∧ (3 : Nat) ≠ 0 from by decide))
theorem er_running (code : Nat) (v u z : Tr) (g : GS) (n : LN) (F : List Fr) (L : List Lv) : eR (aRunning code v u z g n F L) n := by
  unfold aRunning
  by_cases c60 : code = 60
  · rw [if_pos c60]
    exact er_open _ _ _ _ _
  rw [if_neg c60]
  by_cases c61 : code = 61
  · rw [if_pos c61]
    split
    · exact er_open _ _ _ _ _
    · (first | exact Or.inr ⟨rfl, rfl⟩ | exact Or.inl (show (2 : Nat) ≠ 1 ∧ (2 : Nat) ≠ 0 from by decide) | exact Or.inl (show (3 : Nat) ≠ 1 ∧ (3 : Nat) ≠ 0 from by decide))
  rw [if_neg c61]
  by_cases c62 : code = 62
  · rw [if_pos c62]
    exact er_open _ _ _ _ _
  rw [if_neg c62]
  by_cases c63 : code = 63
  · rw [if_pos c63]
    split
    · (first | exact Or.inr ⟨rfl, rfl⟩ | exact Or.inl (show (2 : Nat) ≠ 1 ∧ (2 : Nat) ≠ 0 from by decide) | exact Or.inl (show (3 : Nat) ≠ 1 ∧ (3 : Nat) ≠ 0 from by decide))
    · exact er_open _ _ _ _ _
  rw [if_neg c63]
  by_cases c64 : code = 64
  · rw [if_pos c64]
    (first | exact Or.inr ⟨rfl, rfl⟩ | exact Or.inl (show (2 : Nat) ≠ 1 ∧ (2 : Nat) ≠ 0 from by decide) | exact Or.inl (show (3 : Nat) ≠ 1 ∧ (3 : Nat) ≠ 0 from by decide))
  rw [if_neg c64]
  by_cases c65 : code = 65
  · rw [if_pos c65]
    exact er_open _ _ _ _ _
  rw [if_neg c65]
  by_cases c66 : code = 66
  · rw [if_pos c66]
    split
    · (first | exact Or.inr ⟨rfl, rfl⟩ | exact Or.inl (show (2 : Nat) ≠ 1 ∧ (2 : Nat) ≠ 0 from by decide) | exact Or.inl (show (3 : Nat) ≠ 1 ∧ (3 : Nat) ≠ 0 from by decide))
    · exact er_open _ _ _ _ _
  rw [if_neg c66]
  by_cases c67 : code = 67
  · rw [if_pos c67]
    split
    · exact er_fail _ _ _ _ _
    · split
      · exact er_fail _ _ _ _ _
      · (first | exact Or.inr ⟨rfl, rfl⟩ | exact Or.inl (show (2 : Nat) ≠ 1 ∧ (2 : Nat) ≠ 0 from by decide) | exact Or.inl (show (3 : Nat) ≠ 1 ∧ (3 : Nat) ≠ 0 from by decide))
  rw [if_neg c67]
  by_cases c68 : code = 68
  · rw [if_pos c68]
    split
    · exact er_fail _ _ _ _ _
    · split
      · (first | exact Or.inr ⟨rfl, rfl⟩ | exact Or.inl (show (2 : Nat) ≠ 1 ∧ (2 : Nat) ≠ 0 from by decide) | exact Or.inl (show (3 : Nat) ≠ 1 ∧ (3 : Nat) ≠ 0 from by decide))
      · split
        · exact er_fail _ _ _ _ _
        · (first | exact Or.inr ⟨rfl, rfl⟩ | exact Or.inl (show (2 : Nat) ≠ 1 ∧ (2 : Nat) ≠ 0 from by decide) | exact Or.inl (show (3 : Nat) ≠ 1 ∧ (3 : Nat) ≠ 0 from by decide))
  rw [if_neg c68]
  by_cases c69 : code = 69
  · rw [if_pos c69]
    split
    · exact er_fail _ _ _ _ _
    · split
      · exact er_fail _ _ _ _ _
      · (first | exact Or.inr ⟨rfl, rfl⟩ | exact Or.inl (show (2 : Nat) ≠ 1 ∧ (2 : Nat) ≠ 0 from by decide) | exact Or.inl (show (3 : Nat) ≠ 1 ∧ (3 : Nat) ≠ 0 from by decide))
  rw [if_neg c69]
  by_cases c70 : code = 70
  · rw [if_pos c70]
    unfold aStop
    split
    · (first | exact Or.inr ⟨rfl, rfl⟩ | exact Or.inl (show (2 : Nat) ≠ 1 ∧ (2 : Nat) ≠ 0 from by decide) | exact Or.inl (show (3 : Nat) ≠ 1 ∧ (3 : Nat) ≠ 0 from by decide))
    · (first | exact Or.inr ⟨rfl, rfl⟩ | exact Or.inl (show (2 : Nat) ≠ 1 ∧ (2 : Nat) ≠ 0 from by decide) | exact Or.inl (show (3 : Nat) ≠ 1 ∧ (3 : Nat) ≠ 0 from by decide))
  rw [if_neg c70]
  by_cases c71 : code = 71
  · rw [if_pos c71]
    unfold aOutput
    split
    · exact er_fail _ _ _ _ _
    · (first | exact Or.inr ⟨rfl, rfl⟩ | exact Or.inl (show (2 : Nat) ≠ 1 ∧ (2 : Nat) ≠ 0 from by decide) | exact Or.inl (show (3 : Nat) ≠ 1 ∧ (3 : Nat) ≠ 0 from by decide))
  rw [if_neg c71]
  by_cases c72 : code = 72
  · rw [if_pos c72]
    exact er_open _ _ _ _ _
  rw [if_neg c72]
  by_cases c73 : code = 73
  · rw [if_pos c73]
    unfold aThrow
    split
    · exact er_fail _ _ _ _ _
    · (first | exact Or.inr ⟨rfl, rfl⟩ | exact Or.inl (show (2 : Nat) ≠ 1 ∧ (2 : Nat) ≠ 0 from by decide) | exact Or.inl (show (3 : Nat) ≠ 1 ∧ (3 : Nat) ≠ 0 from by decide))
  rw [if_neg c73]
  (first | exact Or.inr ⟨rfl, rfl⟩ | exact Or.inl (show (2 : Nat) ≠ 1 ∧ (2 : Nat) ≠ 0 from by decide) | exact Or.inl (show (3 : Nat) ≠ 1 ∧ (3 : Nat) ≠ 0 from by decide))
theorem er_call (w : Wt) (g : GS) (n : LN) (F : List Fr) (L : List Lv) : eR (aCall w g n F L) n := by
  unfold aCall
  split
  · exact er_fail _ _ _ _ _
  · (first | exact Or.inr ⟨rfl, rfl⟩ | exact Or.inl (show (2 : Nat) ≠ 1 ∧ (2 : Nat) ≠ 0 from by decide) | exact Or.inl (show (3 : Nat) ≠ 1 ∧ (3 : Nat) ≠ 0 from by decide))
theorem er_apply (c : Cfg) : eR (aApply c) c.2.1 := by
  obtain ⟨g, n, F, L, ph, got, rd⟩ := c
  unfold aApply
  dsimp only
  split
  · split <;> (first | exact Or.inr ⟨rfl, rfl⟩ | exact Or.inl (show (2 : Nat) ≠ 1 ∧ (2 : Nat) ≠ 0 from by decide) | exact Or.inl (show (3 : Nat) ≠ 1 ∧ (3 : Nat) ≠ 0 from by decide))
  · split
    · (first | exact Or.inr ⟨rfl, rfl⟩ | exact Or.inl (show (2 : Nat) ≠ 1 ∧ (2 : Nat) ≠ 0 from by decide) | exact Or.inl (show (3 : Nat) ≠ 1 ∧ (3 : Nat) ≠ 0 from by decide))
    · split
      · exact er_call _ _ _ _ _
      · unfold aDo
        dsimp only
        split
        · exact er_fail _ _ _ _ _
        split
        · exact er_retG _ _ _ _ _ 
        split
        · exact er_retG _ _ _ _ _ 
        split
        · exact er_retM _ _ _ _ _
        split
        · exact er_other _ _ _ _ _ _ _
        · exact er_running _ _ _ _ _ _ _ _
theorem er_step (b : Nat) (c : Cfg) : eR (aStep b c) c.2.1 := by
  unfold aStep
  split
  · (first | exact Or.inr ⟨rfl, rfl⟩ | exact Or.inl (show (2 : Nat) ≠ 1 ∧ (2 : Nat) ≠ 0 from by decide) | exact Or.inl (show (3 : Nat) ≠ 1 ∧ (3 : Nat) ≠ 0 from by decide))
  split
  · exact er_micro c
  split
  · (first | exact Or.inr ⟨rfl, rfl⟩ | exact Or.inl (show (2 : Nat) ≠ 1 ∧ (2 : Nat) ≠ 0 from by decide) | exact Or.inl (show (3 : Nat) ≠ 1 ∧ (3 : Nat) ≠ 0 from by decide))
  split
  · (first | exact Or.inr ⟨rfl, rfl⟩ | exact Or.inl (show (2 : Nat) ≠ 1 ∧ (2 : Nat) ≠ 0 from by decide) | exact Or.inl (show (3 : Nat) ≠ 1 ∧ (3 : Nat) ≠ 0 from by decide))
  · exact er_apply c

theorem er_it (b : Nat) : ∀ (j : Nat) (c : Cfg), ((cSt c = 1 → nErr c.2.1 = 0) ∧ cSt c ≠ 0) → ((cSt (aIt b j c) = 1 → nErr (aIt b j c).2.1 = 0) ∧ cSt (aIt b j c) ≠ 0) := by
  intro j
  induction j with
  | zero => intro c h; exact h
  | succ j ih =>
    intro c h
    rw [aIt]
    refine ih _ ?_
    rcases er_step b c with e | e
    · exact ⟨fun hs => absurd hs e.1, e.2⟩
    · exact ⟨fun hs => by rw [e.1]; exact h.1 (e.2.symm.trans hs), fun hs => h.2 (e.2.symm.trans hs)⟩
theorem er_begin {b : Nat} {G : GS} {tl : Tr} {c : Cfg} (h : Std b (aBegin G tl) c) : (cSt c = 1 → nErr c.2.1 = 0) ∧ cSt c ≠ 0 := by
  obtain ⟨⟨j, rfl⟩, _⟩ := h
  exact er_it b j _ ⟨fun _ => rfl, (show (1 : Nat) ≠ 0 from by decide)⟩

