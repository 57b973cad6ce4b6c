/-! reading the tape, once more: bytes by their places, trees for values -/
def aAlone (b : Nat) : Bool := b == 91 || b == 93 || b == 40 || b == 41 || b == 43 || b == 42 || b == 47 || b == 61 || b == 60 || b == 62
def aSgn (b : Nat) : Bool := b == 43 || b == 45 || b == 42 || b == 47 || b == 61 || b == 60 || b == 62
def aDigit (b : Nat) : Bool := decide (48 ≤ b ∧ b ≤ 57)
def aAhead (b : Nat) : Bool := b == 10 || b == 32 || b == 91 || b == 40 || aSgn b
/-- whether a number begins with this - -/
def aDash (tp : Nat → Nat) (n k : Nat) : Bool := decide (k + 1 < n) && aDigit (tp (k + 1)) && (k == 0 || aAhead (tp (k - 1)))
def aHalts (b : Nat) : Bool := decide (b ≤ 32 ∨ 126 < b) || b == 59 || b == 45 || aAlone b
def aTEl (tp : Nat → Nat) : Nat → Nat → Nat
  | 0, k => k
  | f + 1, k => if aHalts (tp k) then k else aTEl tp f (k + 1)
/-- where the token that begins at k ends -/
def aTE (tp : Nat → Nat) (n k : Nat) : Nat := if aAlone (tp k) || (tp k == 45 && !aDash tp n k) then k + 1 else aTEl tp (n - (k + 1)) (k + 1)
def aTxt (tp : Nat → Nat) (k e : Nat) : List Nat := (List.range (e - k)).map (fun j => tp (k + j))
/-- stage (0 outside, 1 at a name, 2 at inputs, 3 in a body), members at each level (the innermost first), tokens, what is told, name and inputs of what is being told, new names, fault, its place -/
abbrev Rd : Type := Nat × List (List Tr) × Nat × List Proc × Nm × List Nm × Nat × Nat × Nat
def rdF (r : Rd) : Nat := r.2.2.2.2.2.2.2.1
def rdP (r : Rd) : Nat := r.2.2.2.2.2.2.2.2
def rdK (r : Rd) : List (List Tr) := r.2.1
def rdD (r : Rd) : List Proc := r.2.2.2.1
def rdBad (k at_ : Nat) (r : Rd) : Rd := (r.1, r.2.1, r.2.2.1, r.2.2.2.1, r.2.2.2.2.1, r.2.2.2.2.2.1, r.2.2.2.2.2.2.1, k, at_)
def aKAdd (K : List (List Tr)) (v : Tr) : List (List Tr) := match K with
  | [] => []
  | m :: R => (m ++ [v]) :: R
/-- all inputs are read -/
def aCI (r : Rd) : Rd := if r.1 = 2 then (3, [[]], r.2.2.1, r.2.2.2.1, r.2.2.2.2.1, (r.2.1.headD []).map tLet, r.2.2.2.2.2.2) else r
def aTokO (at_ : Nat) (r : Rd) : Rd :=
  if 20 < r.2.1.length then rdBad 5 at_ r else if 600 < r.2.2.1 then rdBad 6 at_ r else if r.1 = 0 then rdBad 7 at_ r else if r.1 = 1 then rdBad 8 at_ r
  else ((aCI r).1, [] :: (aCI r).2.1, (aCI r).2.2)
def aTokC (at_ : Nat) (r : Rd) : Rd := match r.2.1 with
  | m :: m2 :: R => if 600 < r.2.2.1 then rdBad 6 at_ r else (r.1, (m2 ++ [tL m]) :: R, r.2.2)
  | _ => rdBad 4 at_ r
noncomputable def aNew (P D : List Proc) (w : Nm) : Bool := dec (∀ p ∈ D, p.1 ≠ w) && (pFind P w).isNone
noncomputable def aName (P : List Proc) (at_ : Nat) (v : Tr) (r : Rd) : Rd :=
  if isW v = false ∨ aLex (tLet v) ≠ 0 then rdBad 8 at_ r else
  let fr : Nat := if aNew P r.2.2.2.1 (tLet v) then r.2.2.2.2.2.2.1 + 1 else r.2.2.2.2.2.2.1
  if 40 < P.length + fr then rdBad 11 at_ r else (2, [[]], r.2.2.1, r.2.2.2.1, tLet v, [], fr, 0, 0)
def aInput (at_ : Nat) (v : Tr) (r : Rd) : Rd :=
  let b : Nm := (tLet v).tail
  let ms : List Tr := r.2.1.headD []
  if b = [] ∨ 5 ≤ ms.length ∨ b ∈ ms.map tLet then rdBad 9 at_ r else (r.1, [ms ++ [tW b]], r.2.2)
def aMean (v : Tr) : Nat := if isW v then aLex (tLet v) else 0
def aBody (r : Rd) : Rd := (0, [[]], r.2.2.1, r.2.2.2.1 ++ [(r.2.2.2.2.1, r.2.2.2.2.2.1, tL (r.2.1.headD []))], r.2.2.2.2)
noncomputable def aPlain (dfn : Bool) (P : List Proc) (at_ : Nat) (v : Tr) (r : Rd) : Rd :=
  if r.1 = 0 then (if aMean v = 84 then (1, r.2) else rdBad 7 at_ r)
  else if r.1 = 1 then aName P at_ v r
  else if r.1 = 2 ∧ aMean v = 87 then aInput at_ v r
  else if dfn = true ∧ (aCI r).2.1.length = 1 ∧ aMean v = 85 then aBody (aCI r)
  else ((aCI r).1, aKAdd (aCI r).2.1 v, (aCI r).2.2)
noncomputable def aTokP (dfn : Bool) (P : List Proc) (at_ : Nat) (l : List Nat) (r : Rd) : Rd :=
  let go (v : Tr) : Rd := if 600 < r.2.2.1 then rdBad 6 at_ r else aPlain dfn P at_ v r
  match aPar l with
  | (0, _) => if 30 < l.length then rdBad 3 at_ r else go (tW l)
  | (1, z) => go (tN z)
  | _ => rdBad 2 at_ r
noncomputable def aTok (dfn : Bool) (P : List Proc) (at_ : Nat) (l : List Nat) (r0 : Rd) : Rd :=
  let r : Rd := (r0.1, r0.2.1, r0.2.2.1 + 1, r0.2.2.2)
  if l.head? = some 91 then aTokO at_ r else if l.head? = some 93 then aTokC at_ r else aTokP dfn P at_ l r
noncomputable def aScan (dfn : Bool) (P : List Proc) (tp : Nat → Nat) (n : Nat) : Nat → Nat → Bool → Rd → Rd
  | 0, _, _, r => r
  | f + 1, k, cm, r => if n ≤ k ∨ rdF r ≠ 0 then r
    else if tp k ≠ 10 ∧ (tp k < 32 ∨ 126 < tp k) then rdBad 1 k r
    else if cm = true ∨ tp k = 59 then aScan dfn P tp n f (k + 1) (tp k != 10) r
    else if tp k = 10 ∨ tp k = 32 then aScan dfn P tp n f (k + 1) false r
    else aScan dfn P tp n f (aTE tp n k) false (aTok dfn P k (aTxt tp k (aTE tp n k)) r)
def aRdEnd (dfn : Bool) (n : Nat) (r : Rd) : Rd :=
  if rdF r ≠ 0 then r else if 1 < r.2.1.length then rdBad 4 n r else if dfn = false ∨ r.1 = 0 then r else if r.1 = 1 then rdBad 8 n r else rdBad 10 n r
def rd0 (dfn : Bool) : Rd := (if dfn then 0 else 3, [[]], 0, [], [], [], 0, 0, 0)
noncomputable def aRead (dfn : Bool) (P : List Proc) (tp : Nat → Nat) (n : Nat) : Rd := aRdEnd dfn n (aScan dfn P tp n (n + 1) 0 false (rd0 dfn))
/-! how long, how deep -/
def shL (ms : List Tr) : Nat := (ms.map (fun m => (aSh m 0).length + 1)).sum
def dpL (ms : List Tr) : Nat := (ms.map tDp).sum
def kSh : List (List Tr) → Nat
  | [] => 0
  | m :: R => shL m + kSh R
def kDp : List (List Tr) → Nat
  | [] => 0
  | m :: R => dpL m + kDp R
def kHt : List (List Tr) → Nat
  | [] => 0
  | m :: R => m.length + kHt R
theorem shL_add (a b : List Tr) : shL (a ++ b) = shL a + shL b := by
  unfold shL; rw [List.map_append, List.sum_append]
theorem dpL_add (a b : List Tr) : dpL (a ++ b) = dpL a + dpL b := by
  unfold dpL; rw [List.map_append, List.sum_append]
theorem shL_one (v : Tr) : shL [v] = (aSh v 0).length + 1 := by unfold shL; simp
theorem dpL_one (v : Tr) : dpL [v] = tDp v := by unfold dpL; simp
theorem shL_nil : shL [] = 0 := rfl
theorem dpL_nil : dpL [] = 0 := rfl
theorem sh_tail : ∀ (ms : List Tr), (aSh (tL ms) 2).length = shL ms := by
  intro ms
  induction ms with
  | nil => rfl
  | cons m ms ih =>
    show (32 :: (aSh m 0 ++ aSh (tL ms) 2)).length = _
    rw [List.length_cons, List.length_append, ih]
    show _ = shL ([m] ++ ms)
    rw [shL_add, shL_one]
    omega
theorem sh_list (ms : List Tr) : (aSh (tL ms) 0).length ≤ shL ms + 2 := by
  cases ms with
  | nil => exact Nat.le_refl _
  | cons m ms =>
    show (91 :: (aSh m 0 ++ (aSh (tL ms) 2 ++ [93]))).length ≤ _
    rw [List.length_cons, List.length_append, List.length_append, sh_tail]
    show _ ≤ shL ([m] ++ ms) + 2
    rw [shL_add, shL_one]
    simp only [List.length_cons, List.length_nil]
    omega
theorem dp_list : ∀ (ms : List Tr), tDp (tL ms) ≤ dpL ms + 1 := by
  intro ms
  induction ms with
  | nil => exact Nat.le_refl _
  | cons m ms ih =>
    show max (tDp m + 1) (tDp (tL ms)) ≤ dpL ([m] ++ ms) + 1
    rw [dpL_add, dpL_one]
    omega
theorem sz_sh : ∀ (t : Tr), (tOk t 0 → tSz t ≤ (aSh t 0).length) ∧ (tOk t 1 → tSz t ≤ (aSh t 0).length) ∧ (tOk t 2 → tSz t ≤ (aSh t 2).length + 1) := by
  intro t
  induction t with
  | nest n t _ =>
    refine ⟨fun _ => ?_, fun h => h.elim, fun h => h.elim⟩
    show 1 ≤ (aNumS n).length
    unfold aNumS
    split
    · rw [List.length_cons]; omega
    · rw [aDig_len]; omega
  | tag c t ih =>
    have q : tOk t 1 → tSz (.tag c t) ≤ (aSh (.tag c t) 0).length := fun h => by
      show tSz t + 1 ≤ (aSh t 0).length + 1
      have := ih.2.1 h
      omega
    exact ⟨fun h => q h.2.2, fun h => q h.2.2, fun h => h.elim⟩
  | line => exact ⟨fun h => h.elim, fun _ => Nat.zero_le _, fun h => h.elim⟩
  | nil => exact ⟨fun _ => by decide, fun h => h.elim, fun _ => by decide⟩
  | append m t ihm iht =>
    refine ⟨fun h => ?_, fun h => h.elim, fun h => ?_⟩
    · have h1 := ihm.1 h.1
      have h2 := iht.2.2 h.2
      show tSz m + tSz t ≤ (91 :: (aSh m 0 ++ (aSh t 2 ++ [93]))).length
      simp only [List.length_cons, List.length_append, List.length_nil]
      omega
    · have h1 := ihm.1 h.1
      have h2 := iht.2.2 h.2
      show tSz m + tSz t ≤ (32 :: (aSh m 0 ++ aSh t 2)).length + 1
      simp only [List.length_cons, List.length_append]
      omega
  | _ => exact ⟨fun h => h.elim, fun h => h.elim, fun h => h.elim⟩
/-- a number is shown no longer than it was told -/
theorem aVal_lt : ∀ (l : List Nat) (v w : Nat), aVal l v = some w → w < (v + 1) * 10 ^ l.length := by
  intro l
  induction l with
  | nil =>
    intro v w h
    have e : v = w := Option.some.inj h
    rw [← e]
    simp
  | cons c l ih =>
    intro v w h
    rw [aVal] at h
    split at h
    · next hc =>
      have := ih _ _ h
      refine Nat.lt_of_lt_of_le this ?_
      rw [List.length_cons, Nat.pow_succ, Nat.mul_comm (10 ^ l.length) 10, ← Nat.mul_assoc]
      exact Nat.mul_le_mul_right _ (by omega)
    · cases h
theorem aUnit_lt {v k : Nat} (h : v < 10 ^ (k + 1)) : aUnit v ≤ k := by
  have e : k ≤ 9 ∨ 9 ≤ k := Nat.le_total k 9
  rcases e with e | e
  · have : k = 0 ∨ k = 1 ∨ k = 2 ∨ k = 3 ∨ k = 4 ∨ k = 5 ∨ k = 6 ∨ k = 7 ∨ k = 8 ∨ k = 9 := by omega
    unfold aUnit
    rcases this with rfl | rfl | rfl | rfl | rfl | rfl | rfl | rfl | rfl | rfl
    all_goals
      simp only [Nat.reduceAdd, Nat.reducePow] at h
      repeat' split
      all_goals omega
  · have := aUnit_le v
    omega
theorem aPar_def2 (l : List Nat) : ∃ (ds : List Nat) (neg : Bool), aPar l = numEnd neg (decide (ds = [])) (aVal ds 0) ∧ ds.length + (if neg then 1 else 0) = l.length := by
  rcases Classical.em (l.head? = some 45) with h | h
  · refine ⟨l.tail, true, ?_, ?_⟩
    · unfold aPar numEnd
      simp only [h, if_true]
      rcases Classical.em (l.tail = []) with e | e
      · simp [e, aVal]
      · simp only [e, if_false, decide_false]
        cases aVal l.tail 0 <;> simp
    · cases l with
      | nil => cases h
      | cons a b => rfl
  · refine ⟨l, false, ?_, rfl⟩
    unfold aPar numEnd
    simp only [h, if_false]
    rcases Classical.em (l = []) with e | e
    · simp [e, aVal]
    · simp only [e, if_false, decide_false]
      cases aVal l 0 <;> simp
theorem num_sh {ds : List Nat} {neg : Bool} {z : Int} (h : numEnd neg (decide (ds = [])) (aVal ds 0) = (1, z)) : (aNumS z).length ≤ ds.length + (if neg then 1 else 0) ∧ -1000000000 ≤ z ∧ z ≤ 1000000000 := by
  unfold numEnd at h
  cases hv : aVal ds 0 with
  | none =>
    rw [hv] at h
    exact absurd (show (0 : Nat) = 1 from congrArg Prod.fst h) (by decide)
  | some v =>
    rw [hv] at h
    dsimp only at h
    rcases Classical.em (ds = []) with hd | hd
    · rw [decide_eq_true hd, if_pos rfl] at h
      exact absurd (show (0 : Nat) = 1 from congrArg Prod.fst h) (by decide)
    rw [decide_eq_false hd, if_neg (by decide)] at h
    rcases Classical.em (1000000000 < v) with hb | hb
    · rw [if_pos hb] at h
      exact absurd (show (2 : Nat) = 1 from congrArg Prod.fst h) (by decide)
    rw [if_neg hb] at h
    have hz := congrArg Prod.snd h
    dsimp only at hz
    have hlt := aVal_lt _ _ _ hv
    rw [Nat.zero_add, Nat.one_mul] at hlt
    have hl : 1 ≤ ds.length := by
      cases ds with
      | nil => exact absurd rfl hd
      | cons a b => simp
    have hu : aUnit v ≤ ds.length - 1 := aUnit_lt (by rw [show ds.length - 1 + 1 = ds.length by omega]; exact hlt)
    cases neg with
    | true =>
      rw [if_pos rfl] at hz
      have ea : z.natAbs = v := by omega
      refine ⟨?_, by omega, by omega⟩
      rw [if_pos rfl]
      unfold aNumS
      rw [ea]
      split
      · rw [List.length_cons, aDig_len]; omega
      · rw [aDig_len]; omega
    | false =>
      rw [if_neg (by decide)] at hz
      have ea : z.natAbs = v := by omega
      refine ⟨?_, by omega, by omega⟩
      unfold aNumS
      rw [ea, if_neg (by omega), aDig_len]
      omega
theorem aPar_sh {l : List Nat} {z : Int} (h : aPar l = (1, z)) : (aNumS z).length ≤ l.length ∧ -1000000000 ≤ z ∧ z ≤ 1000000000 := by
  obtain ⟨ds, neg, e1, e2⟩ := aPar_def2 l
  rw [e1] at h
  rw [← e2]
  exact num_sh h
theorem aTEl_le (tp : Nat → Nat) : ∀ (f k : Nat), k ≤ aTEl tp f k ∧ aTEl tp f k ≤ k + f ∧ (∀ j, k ≤ j → j < aTEl tp f k → aHalts (tp j) = false) := by
  intro f
  induction f with
  | zero => intro k; exact ⟨Nat.le_refl _, Nat.le_refl _, fun j h1 h2 => by have h2 : j < k := h2; omega⟩
  | succ f ih =>
    intro k
    rw [aTEl]
    split
    · exact ⟨Nat.le_refl _, by omega, fun j h1 h2 => by omega⟩
    · next h =>
      obtain ⟨h1, h2, h3⟩ := ih (k + 1)
      refine ⟨by omega, by omega, fun j hj hj2 => ?_⟩
      rcases Nat.eq_or_lt_of_le hj with e | e
      · subst e; exact Bool.eq_false_iff.mpr h
      · exact h3 j (by omega) hj2
theorem aTE_le {tp : Nat → Nat} {n k : Nat} (h : k < n) : k < aTE tp n k ∧ aTE tp n k ≤ n := by
  unfold aTE
  split
  · omega
  · have := aTEl_le tp (n - (k + 1)) (k + 1)
    omega
theorem aTxt_len (tp : Nat → Nat) (k e : Nat) : (aTxt tp k e).length = e - k := by
  unfold aTxt; rw [List.length_map, List.length_range]
theorem aTxt_at {tp : Nat → Nat} {k e j : Nat} (h : j < (aTxt tp k e).length) : (aTxt tp k e)[j]'h = tp (k + j) := by
  simp only [aTxt, List.getElem_map, List.getElem_range]
theorem aHalts_ok {b : Nat} (h : aHalts b = false) : 33 ≤ b ∧ b ≤ 126 := by
  unfold aHalts at h
  rw [Bool.or_eq_false_iff, Bool.or_eq_false_iff, Bool.or_eq_false_iff] at h
  have := of_decide_eq_false h.1.1.1
  omega
theorem aTxt_ok {tp : Nat → Nat} {n k : Nat} (h : k < n) (h1 : 33 ≤ tp k) (h2 : tp k ≤ 126) : okLs (aTxt tp k (aTE tp n k)) := by
  intro c hc
  obtain ⟨j, hj, rfl⟩ := List.getElem_of_mem hc
  rw [aTxt_at]
  rw [aTxt_len] at hj
  rcases Nat.eq_zero_or_pos j with rfl | hp
  · exact ⟨h1, h2⟩
  · unfold aTE at hj
    split at hj
    · omega
    · exact aHalts_ok ((aTEl_le tp (n - (k + 1)) (k + 1)).2.2 (k + j) (by omega) (by omega))
