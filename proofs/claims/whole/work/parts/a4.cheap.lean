/-! the class's cells: which tree a handle stands for -/
/-- where the cells' rows stand: 0 a word or a list begins here, 1 within a word, k + 1 with k members still to come -/
def sStep (s : Nat) (v : Int32) : Nat := if s = 0 then (if 1073741824 ≤ v.toNatClampNeg then (if v.toNatClampNeg % 8192 = 0 then 0 else v.toNatClampNeg % 8192 + 1) else 1) else if s = 1 then (if v = nI 0 then 0 else 1) else if s = 2 then 0 else s - 1
def sA (f : Nat → Int32) : Nat → Nat
  | 0 => 0
  | p + 1 => if p = 0 then 0 else sStep (sA f p) (f p)
theorem sA_congr {f f' : Nat → Int32} : ∀ (p : Nat), (∀ x, x < p → f' x = f x) → sA f' p = sA f p := by
  intro p
  induction p with
  | zero => intro _; rfl
  | succ p ih =>
    intro h
    rw [sA, sA, ih (fun x hx => h x (by omega)), h p (by omega)]
theorem sA_succ {f : Nat → Int32} {p : Nat} (h : 1 ≤ p) : sA f (p + 1) = sStep (sA f p) (f p) := by
  rw [sA, if_neg (by omega)]
theorem sA_list {f : Nat → Int32} {p s c : Nat} (hp : 1 ≤ p) (h0 : sA f p = 0) (hf : f p = nI (1073741824 + 8192 * s + c)) (hc : c < 8192) (hs : s < 131072) : ∀ k, k ≤ c → sA f (p + 1 + k) = if k = c then 0 else c - k + 1 := by
  have ec : (f p).toNatClampNeg = 1073741824 + 8192 * s + c := by rw [hf, cl_n (by omega)]
  have em : (1073741824 + 8192 * s + c) % 8192 = c := by omega
  intro k
  induction k with
  | zero =>
    intro _
    rw [Nat.add_zero, sA_succ hp, h0, sStep, if_pos rfl, ec, if_pos (by omega), em]
    rcases Nat.eq_zero_or_pos c with e | e
    · rw [if_pos e, if_pos e.symm]
    · rw [if_neg (by omega), if_neg (by omega)]; omega
  | succ k ih =>
    intro hk
    rw [show p + 1 + (k + 1) = (p + 1 + k) + 1 by omega, sA_succ (by omega), ih (by omega), if_neg (by omega), sStep, if_neg (by omega), if_neg (by omega)]
    rcases Nat.eq_or_lt_of_le hk with e | e
    · rw [if_pos (by omega), if_pos e]
    · rw [if_neg (by omega), if_neg (by omega)]; omega
theorem sA_list_end {f : Nat → Int32} {p s c : Nat} (hp : 1 ≤ p ∧ sA f p = 0) (hf : f p = nI (1073741824 + 8192 * s + c)) (hc : c < 8192) (hs : s < 131072) : sA f (p + 1 + c) = 0 := by
  rw [sA_list hp.1 hp.2 hf hc hs c (Nat.le_refl c), if_pos rfl]
theorem sA_in {f : Nat → Int32} {p : Nat} {l : List Nat} (hp : 1 ≤ p) (h0 : sA f p = 1) (hok : okLs l) (hf : ∀ k (h : k < l.length), f (p + k) = nI (l[k]'h)) : ∀ k, k ≤ l.length → sA f (p + k) = 1 := by
  intro k
  induction k with
  | zero => intro _; exact h0
  | succ k ih =>
    intro hk
    have hl := hok _ (List.getElem_mem (show k < l.length by omega))
    rw [show p + (k + 1) = (p + k) + 1 by omega, sA_succ (by omega), ih (by omega), sStep, if_neg (by decide), if_pos rfl, hf k (by omega), if_neg]
    intro e
    have := (nI_eq (by omega) (by omega)).mp e
    omega
/-- a word, from its mark on -/
theorem sA_word {f : Nat → Int32} {p m : Nat} {l : List Nat} (hp : 1 ≤ p) (h0 : sA f p = 0) (hm : f p = nI m) (hm2 : m < 1073741824) (hok : okLs l) (hf : ∀ k (h : k < l.length), f (p + 1 + k) = nI (l[k]'h)) (hz : f (p + 1 + l.length) = nI 0) : (∀ k, k ≤ l.length → sA f (p + 1 + k) = 1) ∧ sA f (p + 1 + l.length + 1) = 0 := by
  have h1 : sA f (p + 1) = 1 := by
    rw [sA_succ hp, h0, sStep, if_pos rfl, hm, cl_n (by omega), if_neg (by omega)]
  have h2 := sA_in (by omega) h1 hok hf
  refine ⟨h2, ?_⟩
  rw [sA_succ (by omega), h2 _ (Nat.le_refl _), sStep, if_neg (by decide), if_pos rfl, hz, if_pos rfl]
def cWd (f : Nat → Int32) (top p : Nat) (l : List Nat) : Prop :=
  1 ≤ p ∧ l ≠ [] ∧ l.length ≤ 30 ∧ p + l.length < top ∧ okLs l ∧ (∀ k (h : k < l.length), f (p + k) = nI (l[k]'h)) ∧ f (p + l.length) = nI 0 ∧ ((f (p - 1) = nI (128 + aLex l) ∧ 2 ≤ p ∧ sA f (p - 1) = 0) ∨ ((f (p - 1) = nI 34 ∨ f (p - 1) = nI 58) ∧ sA f (p - 1) = 1))
/-- how deep, and how long as it is shown -/
def tDp : Tr → Nat
  | .nil => 1
  | .append m t => max (tDp m + 1) (tDp t)
  | _ => 0
def tSl (t : Tr) : Nat := (aSh t 0).length
def cHd (f : Nat → Int32) (top p count size dp sl : Nat) : Prop := (1 ≤ p ∧ sA f p = 0) ∧ p + 1 + count ≤ top ∧ count ≤ 600 ∧ (size < 131072 ∧ dp ≤ 620 ∧ sl ≤ 8000) ∧ f p = nI (1073741824 + 8192 * size + count)
def cV (f : Nat → Int32) (top : Nat) : Tr → Option Nat → Int32 → Prop
  | .nest n t, none, v => t = .nil ∧ -1000000000 ≤ n ∧ n ≤ 1000000000 ∧ v = hN n
  | .tag c t, none, v => ∃ p, v = nI (4 * p + 3) ∧ t = tW (tLet t) ∧ cWd f top p (c :: tLet t)
  | .nil, none, v => ∃ p, v = nI (4 * p + 1) ∧ cHd f top p 0 1 1 2
  | .append m t, none, v => ∃ p, v = nI (4 * p + 1) ∧ cHd f top p ((tMem t).length + 1) (tSz m + tSz t) (tDp (.append m t)) (tSl (.append m t)) ∧ cV f top m none (f (p + 1)) ∧ cV f top t (some (p + 2)) 0
  | .nil, some _, _ => True
  | .append m t, some p, _ => cV f top m none (f p) ∧ cV f top t (some (p + 1)) 0
  | _, _, _ => False
theorem cV_as {f : Nat → Int32} {top p : Nat} {m t : Tr} {v : Int32} : cV f top (.append m t) (some p) v = (cV f top m none (f p) ∧ cV f top t (some (p + 1)) 0) := rfl
theorem cV_an {f : Nat → Int32} {top : Nat} {m t : Tr} {v : Int32} : cV f top (.append m t) none v = ∃ p, v = nI (4 * p + 1) ∧ cHd f top p ((tMem t).length + 1) (tSz m + tSz t) (tDp (.append m t)) (tSl (.append m t)) ∧ cV f top m none (f (p + 1)) ∧ cV f top t (some (p + 2)) 0 := rfl
theorem cV_chain {f : Nat → Int32} {top : Nat} {t : Tr} : ∀ {p : Nat} {v : Int32}, cV f top t (some p) v → ∃ l, t = tL l := by
  induction t with
  | nil => intro p v h; exact ⟨[], rfl⟩
  | append m t _ ih =>
    intro p v h
    rw [cV_as] at h
    obtain ⟨l, rfl⟩ := ih h.2
    exact ⟨m :: l, rfl⟩
  | _ => intro p v h; exact h.elim
theorem cV_tN {f : Nat → Int32} {top : Nat} {n : Int} {v : Int32} : cV f top (tN n) none v ↔ -1000000000 ≤ n ∧ n ≤ 1000000000 ∧ v = hN n := by
  unfold tN cV
  exact ⟨fun h => h.2, fun h => ⟨rfl, h⟩⟩
theorem cV_tW {f : Nat → Int32} {top : Nat} {l : List Nat} {v : Int32} : cV f top (tW l) none v ↔ ∃ p, v = nI (4 * p + 3) ∧ cWd f top p l := by
  cases l with
  | nil =>
    constructor
    · intro h; exact absurd h (by unfold tW cV; exact id)
    · rintro ⟨p, _, h⟩; exact absurd rfl h.2.1
  | cons c l =>
    show cV f top (.tag c (tW l)) none v ↔ _
    unfold cV
    rw [tLet_tW]
    constructor
    · rintro ⟨p, h1, _, h2⟩; exact ⟨p, h1, h2⟩
    · rintro ⟨p, h1, h2⟩; exact ⟨p, h1, rfl, h2⟩
theorem cV_ch {f : Nat → Int32} {top : Nat} : ∀ (ms : List Tr) (p : Nat) (v : Int32), cV f top (tL ms) (some p) v ↔ ∀ k (h : k < ms.length), cV f top (ms[k]'h) none (f (p + k)) := by
  intro ms
  induction ms with
  | nil => intro p v; exact ⟨fun _ k h => absurd h (Nat.not_lt_zero k), fun _ => trivial⟩
  | cons m ms ih =>
    intro p v
    show cV f top (.append m (tL ms)) (some p) v ↔ _
    rw [cV_as, ih]
    constructor
    · rintro ⟨h1, h2⟩ k hk
      cases k with
      | zero => exact h1
      | succ k =>
        have := h2 k (by simp at hk; omega)
        rw [show p + 1 + k = p + (k + 1) by omega] at this
        exact this
    · intro h
      refine ⟨h 0 (by simp), fun k hk => ?_⟩
      have := h (k + 1) (by simp; omega)
      rw [show p + (k + 1) = p + 1 + k by omega] at this
      exact this
theorem cV_tL {f : Nat → Int32} {top : Nat} {ms : List Tr} {v : Int32} : cV f top (tL ms) none v ↔ ∃ p, v = nI (4 * p + 1) ∧ cHd f top p ms.length (tSz (tL ms)) (tDp (tL ms)) (tSl (tL ms)) ∧ ∀ k (h : k < ms.length), cV f top (ms[k]'h) none (f (p + 1 + k)) := by
  cases ms with
  | nil =>
    show cV f top .nil none v ↔ _
    unfold cV
    constructor
    · rintro ⟨p, h1, h2⟩; exact ⟨p, h1, h2, fun k h => absurd h (Nat.not_lt_zero k)⟩
    · rintro ⟨p, h1, h2, _⟩; exact ⟨p, h1, h2⟩
  | cons m ms =>
    show cV f top (.append m (tL ms)) none v ↔ _
    rw [cV_an]
    constructor
    · rintro ⟨p, h1, h2, h3, h4⟩
      rw [tMem_tL] at h2
      refine ⟨p, h1, h2, fun k hk => ?_⟩
      rw [cV_ch] at h4
      cases k with
      | zero => exact h3
      | succ k =>
        have := h4 k (by simp at hk; omega)
        rw [show p + 2 + k = p + 1 + (k + 1) by omega] at this
        exact this
    · rintro ⟨p, h1, h2, h3⟩
      refine ⟨p, h1, by rw [tMem_tL]; exact h2, h3 0 (by simp), ?_⟩
      rw [cV_ch]
      intro k hk
      have := h3 (k + 1) (by simp; omega)
      rw [show p + 1 + (k + 1) = p + 2 + k by omega] at this
      exact this
/-- the three kinds -/
theorem cV_cases {f : Nat → Int32} {top : Nat} {t : Tr} {v : Int32} (h : cV f top t none v) : (∃ n, t = tN n ∧ -1000000000 ≤ n ∧ n ≤ 1000000000 ∧ v = hN n) ∨ (∃ l p, t = tW l ∧ v = nI (4 * p + 3) ∧ cWd f top p l) ∨ (∃ ms p, t = tL ms ∧ v = nI (4 * p + 1) ∧ cHd f top p ms.length (tSz (tL ms)) (tDp (tL ms)) (tSl (tL ms)) ∧ ∀ k (h : k < ms.length), cV f top (ms[k]'h) none (f (p + 1 + k))) := by
  cases t with
  | nest n t => obtain ⟨rfl, h1, h2, h3⟩ := h; exact Or.inl ⟨n, rfl, h1, h2, h3⟩
  | tag c t =>
    obtain ⟨p, h1, h2, h3⟩ := h
    exact Or.inr (Or.inl ⟨c :: tLet t, p, by rw [h2, tLet_tW]; rfl, h1, h3⟩)
  | nil => exact Or.inr (Or.inr ⟨[], (cV_tL (ms := [])).mp h |>.choose, rfl, (cV_tL (ms := [])).mp h |>.choose_spec⟩)
  | append m t =>
    have q : ∃ l, t = tL l := by
      obtain ⟨p, _, _, _, h4⟩ := h
      exact cV_chain h4
    obtain ⟨l, rfl⟩ := q
    obtain ⟨p, h1⟩ := (cV_tL (ms := m :: l)).mp h
    exact Or.inr (Or.inr ⟨m :: l, p, rfl, h1⟩)
  | _ => exact h.elim

/-! what is small is neither too deep nor too long -/
theorem aDig_len (n : Nat) : ∀ k, (aDig n k).length = k + 1 := by
  intro k
  induction k with
  | zero => rfl
  | succ k ih => rw [aDig, List.length_cons, ih]
theorem aUnit_le (n : Nat) : aUnit n ≤ 9 := by
  unfold aUnit
  repeat' split
  all_goals omega
theorem aNumS_len (n : Int) : (aNumS n).length ≤ 11 := by
  unfold aNumS
  have := aUnit_le n.natAbs
  split
  · rw [List.length_cons, aDig_len]; omega
  · rw [aDig_len]; omega
theorem small_ok : ∀ (t : Tr), (tOk t 0 → tDp t ≤ tSz t ∧ (aSh t 0).length + 1 ≤ 12 * tSz t) ∧ (tOk t 1 → (aSh t 0).length = tSz t) ∧ (tOk t 2 → tDp t ≤ tSz t ∧ 1 ≤ tSz t ∧ (aSh t 2).length + 12 ≤ 12 * tSz t ∧ (aSh t 1).length + 12 ≤ 12 * tSz t) := by
  intro t
  induction t with
  | nest n t _ =>
    refine ⟨fun _ => ⟨Nat.zero_le _, ?_⟩, fun h => h.elim, fun h => h.elim⟩
    have := aNumS_len n
    show (aNumS n).length + 1 ≤ 12 * 1
    omega
  | tag c t ih =>
    have q : tOk t 1 → (aSh (.tag c t) 0).length = tSz (.tag c t) := by
      intro h
      show (aSh t 0).length + 1 = tSz t + 1
      rw [ih.2.1 h]
    refine ⟨fun h => ⟨Nat.zero_le _, ?_⟩, fun h => q h.2.2, fun h => h.elim⟩
    rw [q h.2.2]
    show tSz t + 1 + 1 ≤ 12 * (tSz t + 1)
    omega
  | line => exact ⟨fun h => h.elim, fun _ => rfl, fun h => h.elim⟩
  | nil => exact ⟨fun _ => ⟨Nat.le_refl _, by decide⟩, fun h => h.elim, fun _ => ⟨Nat.le_refl _, Nat.le_refl _, by decide, by decide⟩⟩
  | append m t ihm iht =>
    refine ⟨fun h => ?_, fun h => h.elim, fun h => ?_⟩
    · obtain ⟨m1, m2⟩ := ihm.1 h.1
      obtain ⟨t1, t2, t3, t4⟩ := iht.2.2 h.2
      refine ⟨?_, ?_⟩
      · show max (tDp m + 1) (tDp t) ≤ tSz m + tSz t
        omega
      · show (91 :: (aSh m 0 ++ (aSh t 2 ++ [93]))).length + 1 ≤ 12 * (tSz m + tSz t)
        simp only [List.length_cons, List.length_append, List.length_nil]
        omega
    · obtain ⟨m1, m2⟩ := ihm.1 h.1
      obtain ⟨t1, t2, t3, t4⟩ := iht.2.2 h.2
      refine ⟨?_, ?_, ?_, ?_⟩
      · show max (tDp m + 1) (tDp t) ≤ tSz m + tSz t
        omega
      · show 1 ≤ tSz m + tSz t
        omega
      · show (32 :: (aSh m 0 ++ aSh t 2)).length + 12 ≤ 12 * (tSz m + tSz t)
        simp only [List.length_cons, List.length_append]
        omega
      · show (aSh m 0 ++ aSh t 2).length + 12 ≤ 12 * (tSz m + tSz t)
        simp only [List.length_append]
        omega
  | _ => exact ⟨fun h => h.elim, fun h => h.elim, fun h => h.elim⟩
theorem tOk_tW {l : List Nat} (h : okLs l) : tOk (tW l) 1 := by
  induction l with
  | nil => trivial
  | cons c l ih => exact ⟨(h c List.mem_cons_self).1, (h c List.mem_cons_self).2, ih (fun x hx => h x (List.mem_cons_of_mem _ hx))⟩
theorem tOk_tL {ms : List Tr} (h : ∀ m ∈ ms, tOk m 0) : tOk (tL ms) 0 ∧ tOk (tL ms) 2 := by
  induction ms with
  | nil => exact ⟨trivial, trivial⟩
  | cons m ms ih =>
    have h1 := h m List.mem_cons_self
    have h2 := ih (fun x hx => h x (List.mem_cons_of_mem _ hx))
    exact ⟨⟨h1, h2.2⟩, ⟨h1, h2.2⟩⟩
theorem cV_ok {f : Nat → Int32} {top : Nat} : ∀ (t : Tr), (∀ v, cV f top t none v → tOk t 0) ∧ (∀ p v, cV f top t (some p) v → tOk t 2) := by
  intro t
  induction t with
  | nest n t _ => exact ⟨fun v h => ⟨h.1, h.2.1, h.2.2.1⟩, fun p v h => h.elim⟩
  | tag c t _ =>
    refine ⟨fun v h => ?_, fun p v h => h.elim⟩
    obtain ⟨p, _, h2, h3⟩ := h
    have ok := h3.2.2.2.2.1
    refine ⟨(ok c List.mem_cons_self).1, (ok c List.mem_cons_self).2, ?_⟩
    rw [h2]
    exact tOk_tW (fun x hx => ok x (List.mem_cons_of_mem _ hx))
  | nil => exact ⟨fun v h => trivial, fun p v h => trivial⟩
  | append m t ihm iht =>
    refine ⟨fun v h => ?_, fun p v h => ?_⟩
    · obtain ⟨p, _, _, h3, h4⟩ := h
      exact ⟨ihm.1 _ h3, iht.2 _ _ h4⟩
    · exact ⟨ihm.1 _ h.1, iht.2 _ _ h.2⟩
  | _ => exact ⟨fun v h => h.elim, fun p v h => h.elim⟩
theorem fine_list {f : Nat → Int32} {top : Nat} {ms : List Tr} (h : ∀ k (h : k < ms.length), ∃ v, cV f top (ms[k]'h) none v) (hs : tSz (tL ms) ≤ 600) : tDp (tL ms) ≤ 620 ∧ tSl (tL ms) ≤ 8000 := by
  have ok : tOk (tL ms) 0 := (tOk_tL (fun m hm => by
    obtain ⟨k, hk, rfl⟩ := List.getElem_of_mem hm
    obtain ⟨v, hv⟩ := h k hk
    exact (cV_ok _).1 v hv)).1
  obtain ⟨h1, h2⟩ := (small_ok (tL ms)).1 ok
  exact ⟨by omega, by unfold tSl; omega⟩
