/-! leaving, and what the reference knows of levels -/
def To (bd : Nat) (c c' : Cfg) : Prop := ∃ k, aIt bd k c = c'
theorem To_refl {bd : Nat} {c : Cfg} : To bd c c := ⟨0, rfl⟩
theorem To_trans {bd : Nat} {c c1 c2 : Cfg} (h : To bd c c1) (h' : To bd c1 c2) : To bd c c2 := by
  obtain ⟨k, e⟩ := h
  obtain ⟨k', e'⟩ := h'
  exact ⟨k + k', by rw [aIt_add, e, e']⟩
theorem To_step {bd : Nat} {c : Cfg} : To bd c (aStep bd c) := ⟨1, rfl⟩
theorem To_micro {bd : Nat} {c : Cfg} (hs : cSt c = 1) (hp : cPh c < 3) : To bd c (aMicro c) := by
  have h := To_step (bd := bd) (c := c)
  unfold aStep at h
  rw [if_neg (by omega), if_pos hp] at h
  exact h
theorem To_apply {bd : Nat} {c : Cfg} (hs : cSt c = 1) (hp : 3 ≤ cPh c) (hd : cDone c < 20000) (hb : cDone c < bd) : To bd c (aApply c) := by
  have h := To_step (bd := bd) (c := c)
  unfold aStep at h
  rw [if_neg (by omega), if_neg (by omega), if_neg (by omega), if_neg (by omega)] at h
  exact h
theorem To_long {bd : Nat} {c : Cfg} (hs : cSt c = 1) (hp : 3 ≤ cPh c) (hd : 20000 ≤ cDone c) : To bd c (aFinish 3 13 c.1 c.2.1 c.2.2.2.1) := by
  have h := To_step (bd := bd) (c := c)
  unfold aStep at h
  rw [if_neg (by omega), if_neg (by omega), if_pos hd] at h
  exact h
/-- all ways to leave: 2 an error, 3 a throw, 4 stop, 5 output, 6 too long -/
def aLV (lv e : Nat) (t : Tr) (g : GS) (n : LN) (F : List Fr) (L : List Lv) : Cfg :=
  if lv = 2 then aFail e g n F L else if lv = 3 then aThrow (tLet t) g n F L else if lv = 4 then aStop g n F L else if lv = 5 then aOutput t g n F L else aFinish 3 13 g n L
def lvOK (lv e : Nat) (t : Tr) (L : List Lv) : Prop := 2 ≤ lv ∧ lv ≤ 6 ∧ e ≤ 13 ∧ (lv = 3 → lvAt (isTag (tLet t)) L ≠ none) ∧ (lv = 5 → lvAt isCall L ≠ none)
def lvNo (lv : Nat) (t : Tr) (x : Lv) : Prop := (lv = 2 → isErr x = false) ∧ (lv = 3 → isTag (tLet t) x = false) ∧ (lv = 4 ∨ lv = 5 → isCall x = false)
def popG (g : GS) (x : Lv) : GS := gSetTold g (if lK x = 7 then lMark x else gTold g)
def popF (F : List Fr) (x : Lv) : List Fr := F.drop (if lK x = 1 then 1 else 0)
theorem lvAt_no {p : Lv → Bool} {x : Lv} {L : List Lv} (h : p x = false) : lvAt p (x :: L) = (lvAt p L).map (· + 1) := by rw [lvAt, h]; rfl
theorem lvAt_yes {p : Lv → Bool} {x : Lv} {L : List Lv} (h : p x = true) : lvAt p (x :: L) = some 0 := by rw [lvAt, h]; rfl
theorem leave_pop (k : Nat) (g : GS) (n : LN) (F : List Fr) (x : Lv) (L : List Lv) (got : Option Tr) : aLeave (k + 1) g n F (x :: L) got = aLeave k (popG g x) n (popF F x) L got := by
  unfold aLeave popG popF
  rw [List.take_succ_cons, List.drop_succ_cons, lvTold, lvCalls, List.drop_drop]
  rfl
theorem finish_pop (st e : Nat) (g : GS) (n : LN) (x : Lv) (L : List Lv) : aFinish st e g n (x :: L) = aFinish st e (popG g x) n L := by
  unfold aFinish popG
  rw [lvTold]
  rfl
theorem fail_pop {e : Nat} {g : GS} {n : LN} {F : List Fr} {x : Lv} {L : List Lv} (h : isErr x = false) : aFail e g n F (x :: L) = aFail e (popG g x) n (popF F x) L := by
  unfold aFail
  rw [lvAt_no h]
  cases lvAt isErr L with
  | none => exact finish_pop _ _ _ _ _ _
  | some k => exact leave_pop _ _ _ _ _ _ _
theorem stop_pop {g : GS} {n : LN} {F : List Fr} {x : Lv} {L : List Lv} (h : isCall x = false) : aStop g n F (x :: L) = aStop (popG g x) n (popF F x) L := by
  unfold aStop
  rw [lvAt_no h]
  cases lvAt isCall L with
  | none => exact finish_pop _ _ _ _ _ _
  | some k => exact leave_pop _ _ _ _ _ _ _
theorem output_pop {v : Tr} {g : GS} {n : LN} {F : List Fr} {x : Lv} {L : List Lv} (h : isCall x = false) (h' : lvAt isCall (x :: L) ≠ none) : aOutput v g n F (x :: L) = aOutput v (popG g x) n (popF F x) L := by
  unfold aOutput
  rw [lvAt_no h] at *
  cases e : lvAt isCall L with
  | none => rw [e] at h'; exact absurd rfl h'
  | some k => exact leave_pop _ _ _ _ _ _ _
theorem throw_pop {w : List Nat} {g : GS} {n : LN} {F : List Fr} {x : Lv} {L : List Lv} (h : isTag w x = false) (h' : lvAt (isTag w) (x :: L) ≠ none) : aThrow w g n F (x :: L) = aThrow w (popG g x) n (popF F x) L := by
  unfold aThrow
  rw [lvAt_no h] at *
  cases e : lvAt (isTag w) L with
  | none => rw [e] at h'; exact absurd rfl h'
  | some k => exact leave_pop _ _ _ _ _ _ _
theorem aLV_pop {lv e : Nat} {t : Tr} {g : GS} {n : LN} {F : List Fr} {x : Lv} {L : List Lv} (hk : lvOK lv e t (x :: L)) (h : lvNo lv t x) : aLV lv e t g n F (x :: L) = aLV lv e t (popG g x) n (popF F x) L ∧ lvOK lv e t L := by
  obtain ⟨k1, k2, k3, k4, k5⟩ := hk
  obtain ⟨n1, n2, n3⟩ := h
  constructor
  · unfold aLV
    split
    · next c => exact fail_pop (n1 c)
    split
    · next c => exact throw_pop (n2 c) (k4 c)
    split
    · next c => exact stop_pop (n3 (Or.inl c))
    split
    · next c => exact output_pop (n3 (Or.inr c)) (k5 c)
    · exact finish_pop _ _ _ _ _ _
  · refine ⟨k1, k2, k3, fun c h => k4 c ?_, fun c h => k5 c ?_⟩
    · rw [lvAt_no (n2 c), h]; rfl
    · rw [lvAt_no (n3 (Or.inr c)), h]; rfl
/-- the same level, but for what it has read and what waits in it -/
def sameL (l l' : Lv) : Prop := lK l' = lK l ∧ lTag l' = lTag l ∧ lMark l' = lMark l ∧ lTurns l' = lTurns l ∧ lOth l' = lOth l ∧ lLst l' = lLst l ∧ lLim l' = lLim l ∧ lVals l' = lVals l
theorem sameL_refl (l : Lv) : sameL l l := ⟨rfl, rfl, rfl, rfl, rfl, rfl, rfl, rfl⟩
theorem sameL_trans {l l' l2 : Lv} (h : sameL l l') (h' : sameL l' l2) : sameL l l2 := by
  obtain ⟨a1, a2, a3, a4, a5, a6, a7, a8⟩ := h
  obtain ⟨b1, b2, b3, b4, b5, b6, b7, b8⟩ := h'
  exact ⟨b1.trans a1, b2.trans a2, b3.trans a3, b4.trans a4, b5.trans a5, b6.trans a6, b7.trans a7, b8.trans a8⟩
theorem sameL_nx (l : Lv) (k : Nat) : sameL l (lSetNx l k) := ⟨rfl, rfl, rfl, rfl, rfl, rfl, rfl, rfl⟩
theorem sameL_ws (l : Lv) (w : List Wt) : sameL l (lSetWs l w) := ⟨rfl, rfl, rfl, rfl, rfl, rfl, rfl, rfl⟩
/-- how many levels of these kinds -/
def lvCn (p : Nat → Bool) : List Lv → Nat
  | [] => 0
  | l :: L => (if p (lK l) then 1 else 0) + lvCn p L
def k3 (k : Nat) : Bool := k == 3
def k5 (k : Nat) : Bool := k == 5 || k == 10
def k7 (k : Nat) : Bool := k == 7
def k8 (k : Nat) : Bool := k == 8
theorem lvCn_le (p : Nat → Bool) : ∀ L : List Lv, lvCn p L ≤ L.length := by
  intro L
  induction L with
  | nil => exact Nat.le_refl _
  | cons x L ih => rw [lvCn]; simp only [List.length_cons]; split <;> omega
/-- what lies in rows about levels -/
def rRow (a : Nat → Nat → Int32) (b : Nat → Nat → Int64) (B : RB4) : List Lv → Prop
  | [] => True
  | l :: R => (lK l = 3 → a 119 (lvCn k3 R) = nI (lTurns l) ∧ a 120 (lvCn k3 R) = nI (lvCalls R)) ∧ (lK l = 5 ∨ lK l = 10 → a 121 (lvCn k5 R) = nI (lvCalls R) ∧ ∃ x, (tMem (lOth l))[lTurns l - 1]? = some x ∧ rV a b B x none (b 122 (lvCn k5 R))) ∧ (lK l = 8 → rV a b B (lTag l) none (b 123 (lvCn k8 R))) ∧ rRow a b B R
theorem rRow_same {a : Nat → Nat → Int32} {b : Nat → Nat → Int64} {B : RB4} {l l' : Lv} {R : List Lv} (h : sameL l l') (hr : rRow a b B (l :: R)) : rRow a b B (l' :: R) := by
  obtain ⟨a1, a2, a3, a4, a5, a6, a7, a8⟩ := h
  obtain ⟨h1, h2, h3, h4⟩ := hr
  refine ⟨?_, ?_, ?_, h4⟩
  · rw [a1, a4]; exact h1
  · rw [a1, a4, a5]; exact h2
  · rw [a1, a2]; exact h3
/-- rows below these counts stay -/
theorem rRow_up {a a' : Nat → Nat → Int32} {b b' : Nat → Nat → Int64} {B B' : RB4} (hu : rUp a b B a' b' B') : ∀ L : List Lv, rRow a b B L → (∀ x, x < lvCn k3 L → a' 119 x = a 119 x ∧ a' 120 x = a 120 x) → (∀ x, x < lvCn k5 L → a' 121 x = a 121 x ∧ b' 122 x = b 122 x) → (∀ x, x < lvCn k8 L → b' 123 x = b 123 x) → rRow a' b' B' L := by
  intro L
  induction L with
  | nil => intro _ _ _ _; trivial
  | cons l R ih =>
    intro h e3 e5 e8
    obtain ⟨h1, h2, h3, h4⟩ := h
    have c3 : lvCn k3 (l :: R) = (if k3 (lK l) then 1 else 0) + lvCn k3 R := rfl
    have c5 : lvCn k5 (l :: R) = (if k5 (lK l) then 1 else 0) + lvCn k5 R := rfl
    have c8 : lvCn k8 (l :: R) = (if k8 (lK l) then 1 else 0) + lvCn k8 R := rfl
    refine ⟨fun hk => ?_, fun hk => ?_, fun hk => ?_, ih h4 (fun x hx => e3 x (by omega)) (fun x hx => e5 x (by omega)) (fun x hx => e8 x (by omega))⟩
    · rw [if_pos (by rw [hk]; rfl)] at c3
      have := e3 (lvCn k3 R) (by omega)
      rw [this.1, this.2]
      exact h1 hk
    · rw [if_pos (by rcases hk with hk | hk <;> rw [hk] <;> rfl)] at c5
      have := e5 (lvCn k5 R) (by omega)
      obtain ⟨f1, x, f2, f3⟩ := h2 hk
      rw [this.1, this.2]
      exact ⟨f1, x, f2, (rV_up hu x).1 _ f3⟩
    · rw [if_pos (by rw [hk]; rfl)] at c8
      rw [e8 (lvCn k8 R) (by omega)]
      exact (rV_up hu _).1 _ (h3 hk)
def rLc (i : Nat → Int32) (L : List Lv) : Prop := i 97 = nI L.length ∧ i 98 = nI (lvWaits L) ∧ i 116 = nI (lvCn k3 L) ∧ i 117 = nI (lvCn k5 L)
def rAs (i : Nat → Int32) (G : GS) (L : List Lv) : Prop := i 118 = nI (lvCn k8 L) ∧ i 103 = nI (lvCn k7 L) ∧ (0 < lvCn k7 L → i 104 = nI (lvTold L (gTold G)))
def rCp (a : Nat → Nat → Int32) : List Fr → Prop
  | [] => True
  | f :: F => a 112 F.length = nI f.1 ∧ rCp a F
/-- room -/
def rRm (B : RB4) (made : Nat) : Prop := B.2.1 ≤ 88000 + made ∧ B.2.2.1 ≤ 56000 + made ∧ B.2.2.2 ≤ 56000 + made
/-- how much may be said -/
def gOb (G : GS) : Nat := min (gKept G).2.2.1 9000000000000000000
theorem gOb_le (G : GS) : gOb G ≤ 9000000000000000000 := Nat.min_le_right _ _
/-- the world of the reference -/
def rWo (i : Nat → Int32) (j : Nat → Int64) (a : Nat → Nat → Int32) (b : Nat → Nat → Int64) (B : RB4) (bd : Nat) (G : GS) (N : LN) (F : List Fr) : Prop :=
  (rB i B ∧ rC a b B ∧ rRm B (nMade N)) ∧ rTr j a b B ∧ (rFr a b B F ∧ rCp a F ∧ i 99 = nI F.length) ∧ rGl i a b B (gGlob G) ∧ (rPr i a b B (gProcs G) ∧ ∀ p ∈ gProcs G, aLex p.1 = 0) ∧ rTu i a G ∧ (rOut j a (gOut G) ∧ (gOut G).length + 8001 * (20001 - nDone N) < gOb G) ∧ i 46 = gSeed G ∧ (i 93 = nI (nDone N) ∧ i 95 = nI (nCaught N) ∧ i 96 = nI (nMade N)) ∧ j 108 = Int64.ofInt (bd : Int) ∧ bd ≤ 3000000000
/-- what the control of the reference has, and no word for values touches -/
def cI (q : Nat) : Bool := [97, 98, 99, 103, 104, 105, 106, 107, 116, 117, 118].contains q
def chI : List Nat := [18, 19, 20, 21, 25, 28, 33, 36, 46, 47, 93, 95, 96, 97, 98, 99, 102, 103, 104, 105, 106, 107, 116, 117, 118, 126]
def chJ : List Nat := [48, 109, 110]
def chA : List Nat := [1, 3, 4, 7, 12, 13, 14, 24, 26, 27, 29, 30, 31, 34, 37, 38, 39, 40, 41, 42, 43, 44, 45, 112, 113, 114, 119, 120, 121]
def chB : List Nat := [9, 10, 22, 23, 32, 35, 111, 115, 122, 123]
/-- what no run touches -/
def rFm (i : Nat → Int32) (j : Nat → Int64) (a : Nat → Nat → Int32) (b : Nat → Nat → Int64) (i' : Nat → Int32) (j' : Nat → Int64) (a' : Nat → Nat → Int32) (b' : Nat → Nat → Int64) : Prop := (∀ q, q ∉ chI → i' q = i q) ∧ (∀ q, q ∉ chJ → j' q = j q) ∧ (∀ q, q ∉ chA → a' q = a q) ∧ (∀ q, q ∉ chB → b' q = b q)
theorem rFm_refl {i : Nat → Int32} {j : Nat → Int64} {a : Nat → Nat → Int32} {b : Nat → Nat → Int64} : rFm i j a b i j a b := ⟨fun _ _ => rfl, fun _ _ => rfl, fun _ _ => rfl, fun _ _ => rfl⟩
theorem rFm_trans {i i' i2 : Nat → Int32} {j j' j2 : Nat → Int64} {a a' a2 : Nat → Nat → Int32} {b b' b2 : Nat → Nat → Int64} (h : rFm i j a b i' j' a' b') (h' : rFm i' j' a' b' i2 j2 a2 b2) : rFm i j a b i2 j2 a2 b2 := ⟨fun q hq => (h'.1 q hq).trans (h.1 q hq), fun q hq => (h'.2.1 q hq).trans (h.2.1 q hq), fun q hq => (h'.2.2.1 q hq).trans (h.2.2.1 q hq), fun q hq => (h'.2.2.2 q hq).trans (h.2.2.2 q hq)⟩
theorem nm_ne {l : List Nat} {q k : Nat} (h : q ∉ l) (hk : k ∈ l) : q ≠ k := fun e => h (e ▸ hk)
/-- one int is written -/
theorem rFm_i {i : Nat → Int32} {j : Nat → Int64} {a : Nat → Nat → Int32} {b : Nat → Nat → Int64} {k : Nat} {x : Int32} (hk : k ∈ chI) : rFm i j a b (upd i k x) j a b := ⟨fun q hq => upd_ne (nm_ne hq hk), fun _ _ => rfl, fun _ _ => rfl, fun _ _ => rfl⟩

