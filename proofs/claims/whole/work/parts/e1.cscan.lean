/-! the class reads: bytes, and where a token ends -/
set_option maxRecDepth 20000 in
theorem h_isSign {n b : Nat} (h : b < 256) : m_Reader_isSign n (nI b) = some (b1 (aSgn b)) := by
  have q : ∀ b, b < 256 → m_Reader_isSign 0 (nI b) = some (b1 (aSgn b)) := by decide +kernel
  exact q b h
set_option maxRecDepth 20000 in
theorem h_isDigit {n b : Nat} (h : b < 256) : m_Reader_isDigit n (nI b) = some (b1 (aDigit b)) := by
  have q : ∀ b, b < 256 → m_Reader_isDigit 0 (nI b) = some (b1 (aDigit b)) := by decide +kernel
  exact q b h
set_option maxRecDepth 20000 in
theorem h_isAlone {n b : Nat} (h : b < 256) : m_Reader_isAlone n (nI b) = some (b1 (aAlone b)) := by
  have q : ∀ b, b < 256 → m_Reader_isAlone 0 (nI b) = some (b1 (aAlone b)) := by decide +kernel
  exact q b h
set_option maxRecDepth 20000 in
theorem h_ahead {n b : Nat} {g : Nat → Nat} {i : Nat → Int32} {a : Nat → Nat → Int32} (h : b < 256) : m_Reader_beginsNumber_b43 n g i a (nI b) = some (b1 (aAhead b)) := by
  have q : ∀ b, b < 256 → m_Reader_beginsNumber_b43 0 (fun _ => 0) (fun _ => 0) (fun _ _ => 0) (nI b) = some (b1 (aAhead b)) := by decide +kernel
  exact q b h
/-- the tape -/
def tpR (i : Nat → Int32) (a : Nat → Nat → Int32) (tp : Nat → Nat) (N : Nat) : Prop := i 24 = nI N ∧ N ≤ 4000 ∧ (∀ k, k < N → a 31 k = nI (tp k)) ∧ ∀ k, tp k < 256
theorem b1_z {b : Bool} {δ : Type} {x y : δ} [Decidable (b1 b = nI 0)] : (if b1 b = nI 0 then x else y) = if b then y else x := by
  cases b
  · exact (if_pos (show b1 false = nI 0 from rfl)).trans rfl
  · exact (if_neg (show ¬ b1 true = nI 0 from fun e => absurd ((nI_eq (a := 1) (b := 0) (by omega) (by omega)).mp e) (by decide))).trans rfl
theorem h_begins {n k N : Nat} {tp : Nat → Nat} {g : Nat → Nat} {i : Nat → Int32} {a : Nat → Nat → Int32} (h : tpR i a tp N) (hk : k < N) : m_Reader_beginsNumber n g i a (nI k) = some (b1 (aDash tp N k)) := by
  obtain ⟨h24, hN, hr, hb⟩ := h
  unfold m_Reader_beginsNumber aDash
  rcases Nat.lt_or_ge (k + 1) N with c | c
  · simp (disch := omega) only [ob_s, ob0_s, ob1_s, i32_lit, ile_p, ile_n, ilt_p, ilt_n, ieq_p, ieq_n, ck_n, cl_n, sub_n, nI_add, sh_w, sh_l, an3_w, an3_l, an1_w, an1_l, hN_1, hN_3w, hN_3l, if_true, if_false, h24, hr (k + 1) c, h_isDigit (hb _), b1_z]
    rw [decide_eq_true c, Bool.true_and]
    cases hd : aDigit (tp (k + 1)) with
    | false => rw [Bool.false_and]; rfl
    | true =>
      rw [Bool.true_and]
      rcases Nat.eq_zero_or_pos k with e | e
      · subst e
        rw [if_pos rfl, ieq_p rfl, h_ahead (by decide)]
        rfl
      · rw [if_pos rfl, ieq_n (by omega)]
        simp (disch := omega) only [ob_s, ob0_s, ob1_s, i32_lit, ile_p, ile_n, ilt_p, ilt_n, ieq_p, ieq_n, ck_n, cl_n, sub_n, nI_add, sh_w, sh_l, an3_w, an3_l, an1_w, an1_l, hN_1, hN_3w, hN_3l, if_true, if_false, hr (k - 1) (by omega), h_ahead (hb _)]
        rw [show (k == 0) = false from beq_eq_false_iff_ne.mpr (by omega), Bool.false_or]
  · simp (disch := omega) only [ob_s, ob0_s, ob1_s, i32_lit, ile_p, ile_n, ilt_p, ilt_n, ieq_p, ieq_n, ck_n, cl_n, sub_n, nI_add, sh_w, sh_l, an3_w, an3_l, an1_w, an1_l, hN_1, hN_3w, hN_3l, if_true, if_false, h24]
    rw [decide_eq_false (by omega)]
    rfl
theorem h_te_step {n b : Nat} {δ : Type} {A B : Option δ} (hb : b < 256) : (if nI b ≤ nI 32 then A else if nI 126 < nI b then A else if nI b = nI 59 then A else if nI b = nI 45 then A else ob0 (m_Reader_isAlone n (nI b)) (fun r => if r = nI 0 then B else A)) = if aHalts b then A else B := by
  rw [h_isAlone hb, ob0_s, b1_z]
  rcases Classical.em (b ≤ 32 ∨ 126 < b) with h1 | h1
  · have e : aHalts b = true := by unfold aHalts; rw [decide_eq_true h1]; rfl
    rw [e, if_pos rfl]
    rcases h1 with h1 | h1
    · rw [ile_p (by omega)]
    · rw [ile_n (by omega), ilt_p (by omega)]
  · rw [ile_n (by omega), ilt_n (by omega)]
    rcases Classical.em (b = 59) with h2 | h2
    · subst h2; rw [ieq_p rfl]; rfl
    rcases Classical.em (b = 45) with h3 | h3
    · subst h3; rw [ieq_n (by decide), ieq_p rfl]; rfl
    rw [ieq_n (by omega), ieq_n (by omega)]
    have e : aHalts b = aAlone b := by
      unfold aHalts
      rw [decide_eq_false h1, show (b == 59) = false from beq_eq_false_iff_ne.mpr h2, show (b == 45) = false from beq_eq_false_iff_ne.mpr h3]
      rfl
    rw [e]
theorem h_te_b {n N : Nat} {tp : Nat → Nat} {g : Nat → Nat} {i : Nat → Int32} {a : Nat → Nat → Int32} (h : tpR i a tp N) : ∀ (m k f : Nat), k + m = N → m < f → m_Reader_tokenEnd_b39 n g i a f (nI k) = some (nI (aTEl tp m k)) := by
  obtain ⟨h24, hN, hr, hb⟩ := h
  intro m
  induction m with
  | zero =>
    intro k f e hf
    obtain ⟨f, rfl⟩ : ∃ f', f = f' + 1 := ⟨f - 1, by omega⟩
    rw [m_Reader_tokenEnd_b39, h24, ile_p (by omega), aTEl, ← e]
    rfl
  | succ m ih =>
    intro k f e hf
    obtain ⟨f, rfl⟩ : ∃ f', f = f' + 1 := ⟨f - 1, by omega⟩
    rw [m_Reader_tokenEnd_b39, h24, ile_n (by omega), ck_n (by omega), ob1_s, cl_n (by omega), hr k (by omega), aTEl]
    simp only [i32_lit, ob1_s, nI_add]
    rw [h_te_step (hb k)]
    cases aHalts (tp k) with
    | true => rfl
    | false =>
      rw [if_neg (by decide), if_neg (by decide)]
      exact ih (k + 1) f (by omega) (by omega)
theorem h_tokenEnd {n N k : Nat} {tp : Nat → Nat} {g : Nat → Nat} {i : Nat → Int32} {a : Nat → Nat → Int32} (hn : 5000 ≤ n) (h : tpR i a tp N) (hk : k < N) : m_Reader_tokenEnd n g i a (nI k) = some (nI (aTE tp N k)) := by
  have h' := h
  obtain ⟨h24, hN, hr, hb⟩ := h
  unfold m_Reader_tokenEnd m_Reader_tokenEnd_b37
  rw [ob1_s, ck_n (by omega), cl_n (by omega), hr k hk, h_isAlone (hb k), ob0_s]
  simp only [i32_lit, nI_add]
  rw [b1_z]
  unfold aTE
  cases hA : aAlone (tp k) with
  | true => rfl
  | false =>
    rw [Bool.false_or, if_neg (by decide), ck_n (by omega)]
    rcases Classical.em (tp k = 45) with e | e
    · rw [e, ieq_p rfl, h_begins h' hk, ob0_s, b1_z]
      cases aDash tp N k with
      | true => exact h_te_b h' _ _ _ (by omega) (by omega)
      | false => rfl
    · rw [ieq_n ⟨e, by have := hb k; omega, by omega⟩, show (tp k == 45) = false from beq_eq_false_iff_ne.mpr e]
      exact h_te_b h' _ _ _ (by omega) (by omega)
theorem h_blame {n : Nat} {g : Nat → Nat} {i : Nat → Int32} {a : Nat → Nat → Int32} {k p : Int32} (h : i 26 = nI 0) : m_Reader_blame n g i a k p = some (upd (upd i 26 k) 25 p, a, nI 0) := by
  unfold m_Reader_blame
  simp only [i32_lit, h, ob1_s, if_true]
theorem h_blame_no {n q : Nat} {g : Nat → Nat} {i : Nat → Int32} {a : Nat → Nat → Int32} {k p : Int32} (h : i 26 = nI q) (h1 : q ≠ 0) (h2 : q < 100) : m_Reader_blame n g i a k p = some (i, a, nI 0) := by
  unfold m_Reader_blame
  rw [h, if_neg]
  · rfl
  · intro e
    exact h1 ((nI_eq (by omega) (by omega)).mp e)

