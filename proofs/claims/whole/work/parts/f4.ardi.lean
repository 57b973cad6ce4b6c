/-! what always holds while the tape is read -/
def pTells (P D : List Proc) : List Proc := D.foldl (fun P d => pTell P d.1 d.2.1 d.2.2) P
theorem pTells_snoc (P D : List Proc) (d : Proc) : pTells P (D ++ [d]) = pTell (pTells P D) d.1 d.2.1 d.2.2 := by
  unfold pTells
  rw [List.foldl_append]
  rfl
theorem pFind_iff : ∀ (ps : List Proc) (w : Nm), pFind ps w = none ↔ ∀ p ∈ ps, p.1 ≠ w := by
  intro ps w
  induction ps with
  | nil => exact ⟨(fun _ p hp => by cases hp), fun _ => rfl⟩
  | cons p ps ih =>
    rw [pFind]
    split
    · next h => exact ⟨fun e => (by cases e), fun h2 => absurd h (h2 p List.mem_cons_self)⟩
    · next h =>
      constructor
      · intro e q hq
        rcases List.mem_cons.mp hq with rfl | hq
        · exact h
        · cases hp : pFind ps w with
          | none => exact ih.mp hp q hq
          | some k => rw [hp] at e; cases e
      · intro h2
        rw [ih.mpr (fun q hq => h2 q (List.mem_cons_of_mem _ hq))]
        rfl
theorem pTell_ln (ps : List Proc) (w : Nm) (ins : List Nm) (b : Tr) : (pTell ps w ins b).length = ps.length + (if (pFind ps w).isNone then 1 else 0) := by
  unfold pTell
  cases pFind ps w with
  | none => show (ps ++ [(w, ins, b)]).length = _; rw [List.length_append]; rfl
  | some k => show (ps.set k (w, ins, b)).length = _; rw [List.length_set]; rfl
theorem pFind_at : ∀ (ps : List Proc) (w : Nm) (k : Nat), pFind ps w = some k → ∃ h : k < ps.length, (ps[k]'h).1 = w := by
  intro ps w
  induction ps with
  | nil => intro k h; cases h
  | cons p ps ih =>
    intro k h
    rw [pFind] at h
    split at h
    · next e => cases h; exact ⟨by simp, e⟩
    · cases hp : pFind ps w with
      | none => rw [hp] at h; cases h
      | some j =>
        rw [hp] at h
        cases h
        obtain ⟨h1, h2⟩ := ih j hp
        exact ⟨by simp; omega, h2⟩
theorem pFind_tell (ps : List Proc) (w v : Nm) (ins : List Nm) (b : Tr) : pFind (pTell ps w ins b) v = none ↔ w ≠ v ∧ pFind ps v = none := by
  rw [pFind_iff, pFind_iff]
  unfold pTell
  cases hk : pFind ps w with
  | none =>
    constructor
    · intro h
      exact ⟨h (w, ins, b) (List.mem_append.mpr (Or.inr List.mem_cons_self)), fun p hp => h p (List.mem_append.mpr (Or.inl hp))⟩
    · rintro ⟨h1, h2⟩ p hp
      rcases List.mem_append.mp hp with hp | hp
      · exact h2 p hp
      · rw [List.mem_singleton.mp hp]; exact h1
  | some k =>
    obtain ⟨h1, h2⟩ := pFind_at ps w k hk
    constructor
    · intro h
      have hlen : k < (ps.set k (w, ins, b)).length := by rw [List.length_set]; exact h1
      have hw : w ≠ v := h (w, ins, b) (List.mem_iff_getElem.mpr ⟨k, hlen, by show (ps.set k (w, ins, b))[k]'hlen = _; rw [List.getElem_set_self]⟩)
      refine ⟨hw, fun p hp => ?_⟩
      obtain ⟨j, hj, rfl⟩ := List.getElem_of_mem hp
      rcases Classical.em (k = j) with e | e
      · subst e; rw [h2]; exact hw
      · have hlen2 : j < (ps.set k (w, ins, b)).length := by rw [List.length_set]; exact hj
        refine h _ (List.mem_iff_getElem.mpr ⟨j, hlen2, ?_⟩)
        show (ps.set k (w, ins, b))[j]'hlen2 = _
        rw [List.getElem_set_ne e]
    · rintro ⟨h3, h4⟩ p hp
      rcases List.mem_or_eq_of_mem_set hp with hp | hp
      · exact h4 p hp
      · rw [hp]; exact h3
theorem pFind_tells (P : List Proc) (w : Nm) : ∀ (D : List Proc), pFind (pTells P D) w = none ↔ (∀ p ∈ D, p.1 ≠ w) ∧ pFind P w = none := by
  intro D
  induction D generalizing P with
  | nil => exact ⟨fun h => ⟨(fun p hp => by cases hp), h⟩, fun h => h.2⟩
  | cons d D ih =>
    show pFind (pTells (pTell P d.1 d.2.1 d.2.2) D) w = none ↔ _
    rw [ih, pFind_tell]
    constructor
    · rintro ⟨h1, h2, h3⟩
      refine ⟨fun p hp => ?_, h3⟩
      rcases List.mem_cons.mp hp with rfl | hp
      · exact h2
      · exact h1 p hp
    · rintro ⟨h1, h2⟩
      exact ⟨fun p hp => h1 p (List.mem_cons_of_mem _ hp), h1 d List.mem_cons_self, h2⟩
theorem aNew_tells (P D : List Proc) (w : Nm) : aNew P D w = (pFind (pTells P D) w).isNone := by
  unfold aNew
  rcases Classical.em (∀ p ∈ D, p.1 ≠ w) with h | h
  · rw [dec_t h, Bool.true_and]
    cases hp : pFind P w with
    | none => rw [(pFind_tells P w D).mpr ⟨h, hp⟩]
    | some k =>
      cases ht : pFind (pTells P D) w with
      | none => rw [((pFind_tells P w D).mp ht).2] at hp; cases hp
      | some j => rfl
  · rw [dec_f h, Bool.false_and]
    cases ht : pFind (pTells P D) w with
    | none => exact absurd ((pFind_tells P w D).mp ht).1 h
    | some j => rfl
def dSz (D : List Proc) : Nat := (D.map (fun p => tSz p.2.2)).sum
def RI (dfn : Bool) (P : List Proc) (k : Nat) (r : Rd) : Prop :=
  r.1 ≤ 3 ∧ r.2.1 ≠ [] ∧ (∀ m ∈ r.2.1, ∀ x ∈ m, tOk x 0) ∧ dSz r.2.2.2.1 + kSh r.2.1 + 2 * (r.2.1.length - 1) ≤ k + r.2.2.1 ∧ (dfn = false → r.1 = 3) ∧ (r.1 < 3 → r.2.1.length = 1) ∧ (r.1 < 2 → r.2.1 = [[]]) ∧ (r.1 = 2 → ∃ ins : List Nm, r.2.1 = [ins.map tW] ∧ ins.length ≤ 5 ∧ ins.Nodup) ∧ (r.1 = 3 → r.2.2.2.2.2.1.length ≤ 5 ∧ r.2.2.2.2.2.1.Nodup) ∧ (∀ p ∈ r.2.2.2.1, pOk p) ∧ P.length + r.2.2.2.2.2.2.1 = (pTells P r.2.2.2.1).length + (if 2 ≤ r.1 ∧ dfn = true then (if aNew P r.2.2.2.1 r.2.2.2.2.1 then 1 else 0) else 0) ∧ P.length + r.2.2.2.2.2.2.1 ≤ 40
theorem RI_CI {dfn : Bool} {P : List Proc} {k : Nat} {r : Rd} (h : RI dfn P k r) (h2 : 2 ≤ r.1) : RI dfn P k (aCI r) ∧ (aCI r).1 = 3 ∧ (aCI r).2.2.1 = r.2.2.1 := by
  obtain ⟨st, K, tok, D, cw, ci, fr, fk, fp⟩ := r
  obtain ⟨s1, s2, s3, s4, s5, s6, s7, s8, s9, s10, s11, s12⟩ := id h
  dsimp only at h2 s1 s2 s3 s4 s5 s6 s7 s8 s9 s10 s11 s12
  unfold aCI
  rcases Classical.em (st = 2) with e | e
  · subst e
    rw [if_pos rfl]
    obtain ⟨ins, e1, e2, e3⟩ := s8 rfl
    subst e1
    refine ⟨⟨Nat.le_refl 3, List.cons_ne_nil _ _, fun m hm x hx => ?_, ?_, fun _ => rfl, fun hh => absurd (show (3 : Nat) < 3 from hh) (by decide), fun hh => absurd (show (3 : Nat) < 2 from hh) (by decide), fun hh => absurd (show (3 : Nat) = 2 from hh) (by decide), fun _ => ?_, s10, ?_, s12⟩, rfl, rfl⟩
    · have hm : m ∈ [([] : List Tr)] := hm
      rw [List.mem_singleton.mp hm] at hx
      cases hx
    · show dSz D + kSh [[]] + 2 * 0 ≤ k + tok
      rw [show kSh [[]] = 0 from rfl]
      omega
    · show (((([ins.map tW] : List (List Tr)).headD []).map tLet).length ≤ 5 ∧ ((([ins.map tW] : List (List Tr)).headD []).map tLet).Nodup)
      have e9 : (([ins.map tW] : List (List Tr)).headD []).map tLet = ins := by
        show (ins.map tW).map tLet = ins
        rw [List.map_map]
        conv => rhs; rw [← List.map_id ins]
        apply List.map_congr_left
        intro w _
        exact tLet_tW w
      rw [e9]
      exact ⟨e2, e3⟩
    · show P.length + fr = (pTells P D).length + (if 2 ≤ 3 ∧ dfn = true then (if aNew P D cw then 1 else 0) else 0)
      rw [s11]
      cases dfn with
      | true => rw [if_pos (show 2 ≤ 2 ∧ true = true from ⟨by decide, rfl⟩), if_pos (show 2 ≤ 3 ∧ true = true from ⟨by decide, rfl⟩)]
      | false => rw [if_neg (fun hh => by cases hh.2), if_neg (fun hh => by cases hh.2)]
  · rw [if_neg e]
    exact ⟨h, by show st = 3; omega, rfl⟩
theorem RI_push {dfn : Bool} {P : List Proc} {k st tok : Nat} {K : List (List Tr)} {q : List Proc × Nm × List Nm × Nat × Nat × Nat} (h : RI dfn P k (st, K, tok, q)) (h3 : st = 3) : RI dfn P (k + 1) (st, [] :: K, tok + 1, q) := by
  obtain ⟨s1, s2, s3, s4, s5, s6, s7, s8, s9, s10, s11, s12⟩ := h
  dsimp only at s1 s2 s3 s4 s5 s6 s7 s8 s9 s10 s11 s12
  have hl : 1 ≤ K.length := by
    cases K with
    | nil => exact absurd rfl s2
    | cons a b => simp
  refine ⟨s1, List.cons_ne_nil _ _, fun m hm x hx => ?_, ?_, s5, fun hh => absurd (show st < 3 from hh) (by omega), fun hh => absurd (show st < 2 from hh) (by omega), fun hh => absurd (show st = 2 from hh) (by omega), s9, s10, s11, s12⟩
  · rcases List.mem_cons.mp hm with rfl | hm
    · cases hx
    · exact s3 m hm x hx
  · show dSz q.1 + kSh ([] :: K) + 2 * (([] :: K).length - 1) ≤ k + 1 + (tok + 1)
    rw [kSh, shL_nil, List.length_cons]
    omega
/-- a member more; z signs of it are new -/
theorem RI_add {dfn : Bool} {P : List Proc} {k e st tok : Nat} {m : List Tr} {R : List (List Tr)} {v : Tr} {q : List Proc × Nm × List Nm × Nat × Nat × Nat} (h : RI dfn P k (st, m :: R, tok, q)) (h3 : st = 3 ∨ (st = 2 ∧ ∃ ins : List Nm, (m ++ [v]) :: R = [ins.map tW] ∧ ins.length ≤ 5 ∧ ins.Nodup)) (hv : tOk v 0) (hs : (aSh v 0).length + k ≤ e) : RI dfn P e (st, (m ++ [v]) :: R, tok + 1, q) := by
  obtain ⟨s1, s2, s3, s4, s5, s6, s7, s8, s9, s10, s11, s12⟩ := h
  dsimp only at s1 s2 s3 s4 s5 s6 s7 s8 s9 s10 s11 s12
  refine ⟨s1, List.cons_ne_nil _ _, fun m' hm x hx => ?_, ?_, s5, s6, fun hh => ?_, fun hh => ?_, s9, s10, s11, s12⟩
  · rcases List.mem_cons.mp hm with rfl | hm
    · rcases List.mem_append.mp hx with hx | hx
      · exact s3 m List.mem_cons_self x hx
      · rw [List.mem_singleton.mp hx]; exact hv
    · exact s3 m' (List.mem_cons_of_mem _ hm) x hx
  · show dSz q.1 + kSh ((m ++ [v]) :: R) + 2 * (((m ++ [v]) :: R).length - 1) ≤ e + (tok + 1)
    rw [kSh, shL_add, shL_one]
    rw [kSh] at s4
    simp only [List.length_cons] at s4 ⊢
    omega
  · have hh : st < 2 := hh
    rcases h3 with c | c <;> omega
  · have hh : st = 2 := hh
    rcases h3 with c | c
    · omega
    · exact c.2
theorem RI_tok {dfn : Bool} {P : List Proc} {k n : Nat} {tp : Nat → Nat} {r : Rd} (hP : P.length ≤ 40) (h : RI dfn P k r) (ht : r.2.2.1 ≤ 600) (hf : rdF r = 0) (hk : k < n) (h33 : 33 ≤ tp k) (h126 : tp k ≤ 126) (hg : rdF (aTok dfn P k (aTxt tp k (aTE tp n k)) r) = 0) : RI dfn P (aTE tp n k) (aTok dfn P k (aTxt tp k (aTE tp n k)) r) ∧ (aTok dfn P k (aTxt tp k (aTE tp n k)) r).2.2.1 ≤ 600 := by
  have hte := aTE_le (tp := tp) hk
  have hlen := aTxt_len tp k (aTE tp n k)
  have hok := aTxt_ok (n := n) hk h33 h126
  have hhead : (aTxt tp k (aTE tp n k)).head? = some (tp k) := by
    cases hl : aTxt tp k (aTE tp n k) with
    | nil => rw [hl] at hlen; simp at hlen; omega
    | cons c q =>
      have h0 := aTxt_at (tp := tp) (k := k) (e := aTE tp n k) (j := 0) (by rw [hl]; simp)
      simp only [hl, List.getElem_cons_zero, Nat.add_zero] at h0
      rw [h0]; rfl
  have hE1 : tp k = 91 ∨ tp k = 93 → aTE tp n k = k + 1 := fun hh => by
    unfold aTE
    rcases hh with e | e <;> rw [e] <;> rfl
  generalize aTE tp n k = E at *
  generalize aTxt tp k E = l at *
  obtain ⟨st, K, tok, D, cw, ci, fr, fk, fp⟩ := r
  have hf : fk = 0 := hf
  subst hf
  dsimp only at ht
  have bad : ∀ {q p : Nat} {r : Rd}, q ≠ 0 → rdF (rdBad q p r) ≠ 0 := fun hq => hq
  obtain ⟨s1, s2, s3, s4, s5, s6, s7, s8, s9, s10, s11, s12⟩ := id h
  dsimp only at s1 s2 s3 s4 s5 s6 s7 s8 s9 s10 s11 s12
  unfold aTok at hg ⊢
  rw [hhead] at hg ⊢
  dsimp only at hg ⊢
  rcases Classical.em (tp k = 91) with c1 | c1
  · rw [if_pos (show some (tp k) = some 91 by rw [c1])] at hg ⊢
    have e1 := hE1 (Or.inl c1)
    subst e1
    unfold aTokO at hg ⊢
    dsimp only at hg ⊢
    rcases Classical.em (20 < K.length) with c | c
    · rw [if_pos c] at hg; exact absurd hg (bad (by decide))
    rw [if_neg c] at hg ⊢
    rcases Classical.em (600 < tok + 1) with c | c
    · rw [if_pos c] at hg; exact absurd hg (bad (by decide))
    rw [if_neg c] at hg ⊢
    rcases Classical.em (st = 0) with d | d
    · rw [if_pos d] at hg; exact absurd hg (bad (by decide))
    rw [if_neg d] at hg ⊢
    rcases Classical.em (st = 1) with d2 | d2
    · rw [if_pos d2] at hg; exact absurd hg (bad (by decide))
    rw [if_neg d2] at hg ⊢
    obtain ⟨z1, z2, z3⟩ := RI_CI h (show 2 ≤ st by omega)
    have ec : aCI (st, K, tok + 1, D, cw, ci, fr, 0, fp) = ((aCI (st, K, tok, D, cw, ci, fr, 0, fp)).1, (aCI (st, K, tok, D, cw, ci, fr, 0, fp)).2.1, tok + 1, (aCI (st, K, tok, D, cw, ci, fr, 0, fp)).2.2.2) := by
      unfold aCI
      dsimp only
      split <;> rfl
    rw [ec]
    generalize aCI (st, K, tok, D, cw, ci, fr, 0, fp) = r1 at z1 z2 z3
    obtain ⟨st1, K1, tok1, q1⟩ := r1
    dsimp only at z2 z3
    subst z3
    exact ⟨RI_push z1 z2, by show tok1 + 1 ≤ 600; omega⟩
  rw [if_neg (show ¬ some (tp k) = some 91 from fun e => c1 (Option.some.inj e))] at hg ⊢
  rcases Classical.em (tp k = 93) with c2 | c2
  · rw [if_pos (show some (tp k) = some 93 by rw [c2])] at hg ⊢
    have e1 := hE1 (Or.inr c2)
    subst e1
    unfold aTokC at hg ⊢
    dsimp only at hg ⊢
    cases K with
    | nil => exact absurd rfl s2
    | cons m R =>
    cases R with
    | nil => exact absurd hg (bad (by decide))
    | cons m2 R =>
      dsimp only at hg ⊢
      rcases Classical.em (600 < tok + 1) with c | c
      · rw [if_pos c] at hg; exact absurd hg (bad (by decide))
      rw [if_neg c] at hg ⊢
      have h3 : st = 3 := by
        rcases Nat.lt_or_ge st 3 with q | q
        · have := s6 q; simp at this
        · omega
      refine ⟨⟨s1, List.cons_ne_nil _ _, fun m' hm x hx => ?_, ?_, s5, fun hh => absurd (show st < 3 from hh) (by omega), fun hh => absurd (show st < 2 from hh) (by omega), fun hh => absurd (show st = 2 from hh) (by omega), s9, s10, s11, s12⟩, by show tok + 1 ≤ 600; omega⟩
      · rcases List.mem_cons.mp hm with rfl | hm
        · rcases List.mem_append.mp hx with hx | hx
          · exact s3 m2 (List.mem_cons_of_mem _ List.mem_cons_self) x hx
          · rw [List.mem_singleton.mp hx]
            exact (tOk_tL (fun y hy => s3 m List.mem_cons_self y hy)).1
        · exact s3 m' (List.mem_cons_of_mem _ (List.mem_cons_of_mem _ hm)) x hx
      · show dSz D + kSh ((m2 ++ [tL m]) :: R) + 2 * (((m2 ++ [tL m]) :: R).length - 1) ≤ k + 1 + (tok + 1)
        have := sh_list m
        rw [kSh, shL_add, shL_one]
        rw [kSh, kSh] at s4
        simp only [List.length_cons] at s4 ⊢
        omega
  rw [if_neg (show ¬ some (tp k) = some 93 from fun e => c2 (Option.some.inj e))] at hg ⊢
  -- what is no bracket
  have key : ∀ (v : Tr), tOk v 0 → isL v = false → (aSh v 0).length ≤ l.length → rdF (if 600 < tok + 1 then rdBad 6 k (st, K, tok + 1, D, cw, ci, fr, 0, fp) else aPlain dfn P k v (st, K, tok + 1, D, cw, ci, fr, 0, fp)) = 0 → RI dfn P E (if 600 < tok + 1 then rdBad 6 k (st, K, tok + 1, D, cw, ci, fr, 0, fp) else aPlain dfn P k v (st, K, tok + 1, D, cw, ci, fr, 0, fp)) ∧ (if 600 < tok + 1 then rdBad 6 k (st, K, tok + 1, D, cw, ci, fr, 0, fp) else aPlain dfn P k v (st, K, tok + 1, D, cw, ci, fr, 0, fp)).2.2.1 ≤ 600 := by
    intro v hv hl hs hg
    have hEl : l.length + k = E := by rw [hlen]; exact Nat.sub_add_cancel (Nat.le_of_lt hte.1)
    have hsk : (aSh v 0).length + k ≤ E := Nat.le_trans (Nat.add_le_add_right hs k) (Nat.le_of_eq hEl)
    rcases Classical.em (600 < tok + 1) with c | c
    · rw [if_pos c] at hg; exact absurd hg (bad (by decide))
    rw [if_neg c] at hg ⊢
    unfold aPlain at hg ⊢
    dsimp only at hg ⊢
    rcases Classical.em (st = 0) with d | d
    · subst d
      rw [if_pos rfl] at hg ⊢
      rcases Classical.em (aMean v = 84) with c3 | c3
      · rw [if_pos c3] at hg ⊢
        refine ⟨⟨by show 1 ≤ 3; decide, s2, s3, ?_, fun hh => absurd (s5 hh) (by decide), fun _ => s6 (by decide), fun _ => s7 (by decide), fun hh => absurd (show (1 : Nat) = 2 from hh) (by decide), fun hh => absurd (show (1 : Nat) = 3 from hh) (by decide), s10, ?_, s12⟩, by show tok + 1 ≤ 600; omega⟩
        · show dSz D + kSh K + 2 * (K.length - 1) ≤ E + (tok + 1)
          omega
        · rw [if_neg (fun hh => absurd hh.1 (by decide))] at s11
          show P.length + fr = _ + (if 2 ≤ 1 ∧ dfn = true then _ else 0)
          rw [if_neg (fun hh => absurd hh.1 (by decide))]
          exact s11
      · rw [if_neg c3] at hg; exact absurd hg (bad (by decide))
    rw [if_neg d] at hg ⊢
    rcases Classical.em (st = 1) with d2 | d2
    · subst d2
      rw [if_pos rfl] at hg ⊢
      unfold aName at hg ⊢
      dsimp only at hg ⊢
      rcases Classical.em (isW v = false ∨ aLex (tLet v) ≠ 0) with c3 | c3
      · rw [if_pos c3] at hg; exact absurd hg (bad (by decide))
      rw [if_neg c3] at hg ⊢
      generalize efr : (if aNew P D (tLet v) = true then fr + 1 else fr) = fr' at hg ⊢
      rcases Classical.em (40 < P.length + fr') with c4 | c4
      · rw [if_pos c4] at hg; exact absurd hg (bad (by decide))
      rw [if_neg c4] at hg ⊢
      have hd : dfn = true := by
        cases dfn with
        | true => rfl
        | false => exact absurd (s5 rfl) (by decide)
      refine ⟨⟨by show 2 ≤ 3; decide, List.cons_ne_nil _ _, fun m hm x hx => ?_, ?_, fun hh => (by rw [hd] at hh; cases hh), fun _ => rfl, fun hh => absurd (show (2 : Nat) < 2 from hh) (by decide), fun _ => ⟨[], rfl, by decide, List.nodup_nil⟩, fun hh => absurd (show (2 : Nat) = 3 from hh) (by decide), s10, ?_, by show P.length + fr' ≤ 40; omega⟩, by show tok + 1 ≤ 600; omega⟩
      · have hm : m ∈ [([] : List Tr)] := hm
        rw [List.mem_singleton.mp hm] at hx
        cases hx
      · show dSz D + kSh [[]] + 2 * 0 ≤ E + (tok + 1)
        rw [show kSh [[]] = 0 from rfl]
        omega
      · rw [if_neg (fun hh => absurd hh.1 (by decide))] at s11
        show P.length + fr' = (pTells P D).length + (if 2 ≤ 2 ∧ dfn = true then (if aNew P D (tLet v) then 1 else 0) else 0)
        rw [if_pos ⟨Nat.le_refl _, hd⟩, ← efr]
        cases aNew P D (tLet v)
        · rw [if_neg (by decide), if_neg (by decide)]; exact s11
        · rw [if_pos rfl, if_pos rfl]; omega
    rw [if_neg d2] at hg ⊢
    rcases Classical.em (st = 2 ∧ aMean v = 87) with d3 | d3
    · rw [if_pos d3] at hg ⊢
      obtain ⟨d3, _⟩ := d3
      subst d3
      obtain ⟨ins, e1, e2, e3⟩ := s8 rfl
      subst e1
      unfold aInput at hg ⊢
      dsimp only at hg ⊢
      have em : (([ins.map tW] : List (List Tr)).headD []) = ins.map tW := rfl
      have em2 : (ins.map tW).map tLet = ins := by
        rw [List.map_map]
        conv => rhs; rw [← List.map_id ins]
        apply List.map_congr_left
        intro w _
        exact tLet_tW w
      rw [em, em2, List.length_map] at hg ⊢
      rcases Classical.em ((tLet v).tail = [] ∨ 5 ≤ ins.length ∨ (tLet v).tail ∈ ins) with c3 | c3
      · rw [if_pos c3] at hg; exact absurd hg (bad (by decide))
      rw [if_neg c3] at hg ⊢
      have hw : okLs (tLet v) := by
        rcases tOk_cases hv with ⟨z, e, _⟩ | ⟨c, q, e, ok⟩ | ⟨q, e, _⟩
        · rw [e]; intro y hy; cases hy
        · rw [e, tLet_tW]; exact ok
        · rw [e, isL_tL] at hl; cases hl
      have hv2 : tOk (tW (tLet v).tail) 0 := by
        cases ht : (tLet v).tail with
        | nil => exact absurd ht (fun e => c3 (Or.inl e))
        | cons c q =>
          have hok9 : okLs (c :: q) := fun y hy => hw y (List.mem_of_mem_tail (by rw [ht]; exact hy))
          exact ⟨(hok9 c List.mem_cons_self).1, (hok9 c List.mem_cons_self).2, tOk_tW (fun y hy => hok9 y (List.mem_cons_of_mem _ hy))⟩
      have hlen2 : (aSh (tW (tLet v).tail) 0).length ≤ l.length := by
        have hok9 : okLs (tLet v).tail := fun y hy => hw y (List.mem_of_mem_tail hy)
        rw [(small_ok _).2.1 (tOk_tW hok9), tSz_tW, List.length_tail]
        have hs2 : (tLet v).length ≤ (aSh v 0).length := by
          rcases tOk_cases hv with ⟨z, e, _⟩ | ⟨c, q, e, ok⟩ | ⟨q, e, _⟩
          · rw [e]; exact Nat.zero_le _
          · rw [e, tLet_tW, (small_ok _).2.1 (tOk_tW ok), tSz_tW]; exact Nat.le_refl _
          · rw [e, isL_tL] at hl; cases hl
        omega
      refine ⟨RI_add h (Or.inr ⟨rfl, ins ++ [(tLet v).tail], by rw [List.map_append]; rfl, ?_, ?_⟩) hv2 (by omega), by show tok + 1 ≤ 600; omega⟩
      · rw [List.length_append, List.length_singleton]
        have : ¬ 5 ≤ ins.length := fun e => c3 (Or.inr (Or.inl e))
        omega
      · rw [List.nodup_append]
        refine ⟨e3, List.nodup_cons.mpr ⟨List.not_mem_nil, List.nodup_nil⟩, fun a ha b hb => ?_⟩
        rw [List.mem_singleton.mp hb]
        exact fun e => c3 (Or.inr (Or.inr (e ▸ ha)))
    rw [if_neg d3] at hg ⊢
    obtain ⟨z1, z2, z3⟩ := RI_CI h (show 2 ≤ st by omega)
    have ec : aCI (st, K, tok + 1, D, cw, ci, fr, 0, fp) = ((aCI (st, K, tok, D, cw, ci, fr, 0, fp)).1, (aCI (st, K, tok, D, cw, ci, fr, 0, fp)).2.1, tok + 1, (aCI (st, K, tok, D, cw, ci, fr, 0, fp)).2.2.2) := by
      unfold aCI
      dsimp only
      split <;> rfl
    rw [ec] at hg ⊢
    generalize aCI (st, K, tok, D, cw, ci, fr, 0, fp) = r1 at z1 z2 z3 hg
    obtain ⟨st1, K1, tok1, D1, cw1, ci1, fr1, fk1, fp1⟩ := r1
    dsimp only at z2 z3 hg ⊢
    subst z3
    subst z2
    have htk : tok1 + 1 ≤ 600 := by omega
    rcases Classical.em (dfn = true ∧ K1.length = 1 ∧ aMean v = 85) with d4 | d4
    · rw [if_pos d4] at hg ⊢
      obtain ⟨hd, hl1, _⟩ := d4
      obtain ⟨t1, t2, t3, t4, t5, t6, t7, t8, t9, t10, t11, t12⟩ := z1
      dsimp only at t1 t2 t3 t4 t5 t6 t7 t8 t9 t10 t11 t12
      cases K1 with
      | nil => cases hl1
      | cons m R =>
      cases R with
      | cons m2 R => simp at hl1
      | nil =>
        unfold aBody
        have hm : ∀ x ∈ m, tOk x 0 := t3 m List.mem_cons_self
        have hz : tSz (tL m) ≤ shL m + 2 := Nat.le_trans ((sz_sh _).1 (tOk_tL hm).1) (sh_list m)
        have hz1 : tSz (tL m) ≤ shL m + 1 := by
          have : ∀ (m : List Tr), (∀ x ∈ m, tOk x 0) → tSz (tL m) ≤ shL m + 1 := by
            intro m
            induction m with
            | nil => intro _; decide
            | cons x m ih =>
              intro hx
              have i1 := ih (fun y hy => hx y (List.mem_cons_of_mem _ hy))
              have i2 := (sz_sh x).1 (hx x List.mem_cons_self)
              show tSz x + tSz (tL m) ≤ shL ([x] ++ m) + 1
              rw [shL_add, shL_one]
              omega
          exact this m hm
        refine ⟨⟨Nat.zero_le _, List.cons_ne_nil _ _, fun m' hm' x hx => ?_, ?_, fun hh => (by rw [hd] at hh; cases hh), fun _ => rfl, fun _ => rfl, fun hh => absurd (show (0 : Nat) = 2 from hh) (by decide), fun hh => absurd (show (0 : Nat) = 3 from hh) (by decide), fun p hp => ?_, ?_, t12⟩, by show tok1 + 1 ≤ 600; omega⟩
        · have hm' : m' ∈ [([] : List Tr)] := hm'
          rw [List.mem_singleton.mp hm'] at hx
          cases hx
        · show dSz (D1 ++ [(cw1, ci1, tL m)]) + kSh [[]] + 2 * 0 ≤ E + (tok1 + 1)
          rw [show kSh [[]] = 0 from rfl]
          rw [kSh, kSh] at t4
          unfold dSz at t4 ⊢
          rw [List.map_append, List.sum_append]
          simp only [List.map_cons, List.map_nil, List.sum_cons, List.sum_nil]
          simp only [List.length_cons, List.length_nil] at t4
          omega
        · rcases List.mem_append.mp hp with hp | hp
          · exact t10 p hp
          · rw [List.mem_singleton.mp hp]
            exact ⟨(t9 rfl).1, (t9 rfl).2, isL_tL m⟩
        · show P.length + fr1 = (pTells P (D1 ++ [(cw1, ci1, tL m)])).length + (if 2 ≤ 0 ∧ dfn = true then _ else 0)
          rw [if_neg (fun hh => absurd hh.1 (by decide)), pTells_snoc, pTell_ln]
          rw [if_pos ⟨by decide, hd⟩] at t11
          rw [t11, aNew_tells]
          rfl
    · rw [if_neg d4] at hg ⊢
      cases K1 with
      | nil => exact absurd rfl z1.2.1
      | cons m R => exact ⟨RI_add z1 (Or.inl rfl) hv hsk, htk⟩
  have hl0 : l ≠ [] := fun e => by rw [e] at hhead; cases hhead
  unfold aTokP at hg ⊢
  rcases aPar_cases l with c3 | c3 | ⟨z, c3, z1, z2⟩
  · rw [c3] at hg ⊢
    dsimp only at hg ⊢
    rcases Classical.em (30 < l.length) with c | c
    · rw [if_pos c] at hg; exact absurd hg (bad (by decide))
    rw [if_neg c] at hg ⊢
    refine key (tW l) ?_ (isL_tW l) ?_ hg
    · cases l with
      | nil => exact absurd rfl hl0
      | cons b0 q =>
        show 33 ≤ b0 ∧ b0 ≤ 126 ∧ tOk (tW q) 1
        exact ⟨(hok b0 List.mem_cons_self).1, (hok b0 List.mem_cons_self).2, tOk_tW (fun y hy => hok y (List.mem_cons_of_mem _ hy))⟩
    · rw [(small_ok (tW l)).2.1 (tOk_tW hok), tSz_tW]; exact Nat.le_refl _
  · rw [c3] at hg
    exact absurd hg (bad (by decide))
  · rw [c3] at hg ⊢
    exact key (tN z) ⟨rfl, z1, z2⟩ rfl (aPar_sh c3).1 hg
theorem RI_scan {dfn : Bool} {P : List Proc} {n : Nat} {tp : Nat → Nat} (hP : P.length ≤ 40) : ∀ (f k : Nat) (cm : Bool) (r : Rd), k ≤ n → (rdF r = 0 → RI dfn P k r ∧ r.2.2.1 ≤ 600) → (rdF (aScan dfn P tp n f k cm r) = 0 → RI dfn P n (aScan dfn P tp n f k cm r) ∧ (aScan dfn P tp n f k cm r).2.2.1 ≤ 600) := by
  have up : ∀ {k k' : Nat} {r : Rd}, k ≤ k' → RI dfn P k r → RI dfn P k' r := fun hk h => by
    obtain ⟨s1, s2, s3, s4, s5⟩ := h
    exact ⟨s1, s2, s3, by omega, s5⟩
  intro f
  induction f with
  | zero => intro k cm r hk h hg; exact ⟨up hk (h hg).1, (h hg).2⟩
  | succ f ih =>
    intro k cm r hk h
    rw [aScan]
    rcases Classical.em (n ≤ k ∨ rdF r ≠ 0) with c | c
    · rw [if_pos c]; intro hg; exact ⟨up hk (h hg).1, (h hg).2⟩
    rw [if_neg c]
    have hf : rdF r = 0 := Classical.byContradiction (fun e => c (Or.inr e))
    have hkn : k < n := Nat.lt_of_not_le (fun e => c (Or.inl e))
    obtain ⟨h1, h2⟩ := h hf
    rcases Classical.em (tp k ≠ 10 ∧ (tp k < 32 ∨ 126 < tp k)) with c1 | c1
    · rw [if_pos c1]; intro hg; exact absurd hg (by show ¬ 1 = 0; decide)
    rw [if_neg c1]
    rcases Classical.em (cm = true ∨ tp k = 59) with c2 | c2
    · rw [if_pos c2]
      exact ih (k + 1) _ r (by omega) (fun _ => ⟨up (by omega) h1, h2⟩)
    rw [if_neg c2]
    rcases Classical.em (tp k = 10 ∨ tp k = 32) with c3 | c3
    · rw [if_pos c3]
      exact ih (k + 1) _ r (by omega) (fun _ => ⟨up (by omega) h1, h2⟩)
    rw [if_neg c3]
    have hte := aTE_le (tp := tp) hkn
    exact ih _ _ _ hte.2 (fun hg => RI_tok hP h1 h2 hf hkn (by omega) (by omega) hg)
/-- what was read without a fault -/
theorem RI_read {dfn : Bool} {P : List Proc} {n : Nat} {tp : Nat → Nat} (hP : P.length ≤ 40) (hg : rdF (aRead dfn P tp n) = 0) : RI dfn P n (aRead dfn P tp n) ∧ (aRead dfn P tp n).2.2.1 ≤ 600 ∧ (aRead dfn P tp n).2.1.length = 1 ∧ (dfn = true → (aRead dfn P tp n).1 = 0) := by
  have h0 : RI dfn P 0 (rd0 dfn) := by
    unfold rd0
    cases dfn with
    | true => exact ⟨by decide, List.cons_ne_nil _ _, fun m hm x hx => (by rw [List.mem_singleton.mp hm] at hx; cases hx), Nat.le_refl _, (fun hh => by cases hh), fun _ => rfl, fun _ => rfl, fun hh => absurd (show (0 : Nat) = 2 from hh) (by decide), fun hh => absurd (show (0 : Nat) = 3 from hh) (by decide), (fun p hp => by cases hp), rfl, hP⟩
    | false => exact ⟨by decide, List.cons_ne_nil _ _, fun m hm x hx => (by rw [List.mem_singleton.mp hm] at hx; cases hx), Nat.le_refl _, fun _ => rfl, fun hh => absurd (show (3 : Nat) < 3 from hh) (by decide), fun hh => absurd (show (3 : Nat) < 2 from hh) (by decide), fun hh => absurd (show (3 : Nat) = 2 from hh) (by decide), fun _ => ⟨by decide, List.nodup_nil⟩, (fun p hp => by cases hp), rfl, hP⟩
  have hs := RI_scan (n := n) (tp := tp) hP (n + 1) 0 false (rd0 dfn) (Nat.zero_le _) (fun _ => ⟨h0, Nat.zero_le _⟩)
  unfold aRead at hg ⊢
  generalize aScan dfn P tp n (n + 1) 0 false (rd0 dfn) = r at hs hg ⊢
  unfold aRdEnd at hg ⊢
  have bad : ∀ {q p : Nat} {r : Rd}, q ≠ 0 → rdF (rdBad q p r) ≠ 0 := fun hq => hq
  rcases Classical.em (rdF r ≠ 0) with c | c
  · rw [if_pos c] at hg; exact absurd hg c
  rw [if_neg c] at hg ⊢
  have hr : rdF r = 0 := Classical.byContradiction c
  obtain ⟨h1, h2⟩ := hs hr
  rcases Classical.em (1 < r.2.1.length) with c1 | c1
  · rw [if_pos c1] at hg; exact absurd hg (bad (by decide))
  rw [if_neg c1] at hg ⊢
  have hl : r.2.1.length = 1 := by
    have := h1.2.1
    cases e : r.2.1 with
    | nil => exact absurd e this
    | cons a b => rw [e] at c1; simp at c1 ⊢; exact c1
  rcases Classical.em (dfn = false ∨ r.1 = 0) with c2 | c2
  · rw [if_pos c2] at hg ⊢
    exact ⟨h1, h2, hl, fun hd => c2.elim (fun e => by rw [hd] at e; cases e) id⟩
  rw [if_neg c2] at hg
  rcases Classical.em (r.1 = 1) with c3 | c3
  · rw [if_pos c3] at hg; exact absurd hg (bad (by decide))
  · rw [if_neg c3] at hg; exact absurd hg (bad (by decide))

