/-! how much the names and the procedures hold -/
def gGP (g : GS) : List (Nm × Tr) × List Proc := (gGlob g, gProcs g)
def cGP (c : Cfg) : List (Nm × Tr) × List Proc := gGP c.1
theorem gp_fail (e : Nat) (g : GS) (n : LN) (F : List Fr) (L : List Lv) : cGP (aFail e g n F L) = gGP g := by
  unfold aFail
  split <;> rfl
theorem gp_take (g : GS) (n : LN) (F : List Fr) (L : List Lv) (r : Rs) : cGP (aTake g n F L r) = gGP g := by
  unfold aTake
  split
  · rfl
  · exact gp_fail _ _ _ _ _
theorem gp_last (g : GS) (n : LN) (F : List Fr) (L : List Lv) (w : Wt) : cGP (aSettleLast g n F L w) = gGP g := by
  unfold aSettleLast
  repeat' split
  all_goals first | rfl | exact gp_fail _ _ _ _ _
theorem gp_meetW (g : GS) (n : LN) (F : List Fr) (L : List Lv) (l : List Nat) : cGP (aMeetW g n F L l) = gGP g := by
  unfold aMeetW
  dsimp only
  repeat' split
  all_goals first | exact gp_take _ _ _ _ _ | exact gp_fail _ _ _ _ _ | exact gp_last _ _ _ _ _
theorem gp_meet (g : GS) (n : LN) (F : List Fr) (l : Lv) (R : List Lv) : cGP (aMeet g n F l R) = gGP g := by
  unfold aMeet
  repeat' split
  all_goals first | rfl | exact gp_fail _ _ _ _ _ | exact gp_meetW _ _ _ _ _
theorem gp_inner (g : GS) (n : LN) (F : List Fr) (l : Lv) (R : List Lv) (got : Option Tr) : cGP (aInner g n F l R got) = gGP g := by
  unfold aInner aSettleWhole aClose aSupply
  dsimp only
  repeat' split
  all_goals first | rfl | exact gp_fail _ _ _ _ _
theorem gp_settle (g : GS) (n : LN) (F : List Fr) (l : Lv) (R : List Lv) (got : Option Tr) : cGP (aSettle g n F l R got) = gGP g := by
  unfold aSettle aMeetSign
  repeat' split
  all_goals first | exact gp_inner _ _ _ _ _ _ | exact gp_fail _ _ _ _ _ | exact gp_last _ _ _ _ _
theorem gp_done (g : GS) (n : LN) (F : List Fr) (l : Lv) (R : List Lv) (got : Option Tr) : cGP (aDone g n F l R got) = gGP g := by
  unfold aDone aTest aMapped
  repeat' split
  all_goals first | rfl | exact gp_fail _ _ _ _ _
theorem gp_micro (c : Cfg) : cGP (aMicro c) = cGP c := by
  obtain ⟨g, n, F, L, ph, got, rd⟩ := c
  cases L with
  | nil => rfl
  | cons l R =>
    show cGP (if ph = 0 then aMeet g n F l R else if ph = 1 then aSettle g n F l R got else aDone g n F l R got) = gGP g
    repeat' split
    · exact gp_meet _ _ _ _ _
    · exact gp_settle _ _ _ _ _ _
    · exact gp_done _ _ _ _ _ _
theorem gp_retG (g : GS) (n : LN) (F : List Fr) (L : List Lv) (r : Except Nat (GS × Option Tr)) (h : ∀ g' v, r = .ok (g', v) → gGP g' = gGP g) : cGP (retG g n F L r) = gGP g := by
  match r, h with
  | .ok (g', v), h => exact h g' v rfl
  | .error e, _ => exact gp_fail _ _ _ _ _
theorem gp_rG {g : GS} {r : Except Nat GS} (h : ∀ g', r = .ok g' → gGP g' = gGP g) : ∀ g' v, rG g r = .ok (g', v) → gGP g' = gGP g := by
  intro g' v e
  cases r with
  | ok g2 => cases e; exact h _ rfl
  | error k => cases e
theorem gp_fwd {g g' : GS} {z : Int} (e : aFwd g z = .ok g') : gGP g' = gGP g := by
  unfold aFwd at e
  split at e
  · cases e
  dsimp only at e
  generalize ht : (if (pI g (gTold g) 4).toNat < 6 then z else -z) = tm at e
  split at e
  · cases e
  cases e
  show gGP (if _ then _ else _) = gGP g
  split <;> rfl
theorem gp_turn {g g' : GS} {b z : Int} (e : aTurn g b z = .ok g') : gGP g' = gGP g := by
  unfold aTurn at e
  split at e
  · cases e
  · cases e; rfl
theorem gp_turtle (code : Nat) (x y : Int) (g : GS) : ∀ g' v, aTurtle code x y g = .ok (g', v) → gGP g' = gGP g := by
  intro g' v e
  unfold aTurtle at e
  dsimp only at e
  by_cases c1 : code = 1
  · rw [if_pos c1] at e
    exact gp_rG (fun _ h => gp_fwd h) _ _ e
  rw [if_neg c1] at e
  by_cases c2 : code = 2
  · rw [if_pos c2] at e
    exact gp_rG (fun _ h => gp_fwd h) _ _ e
  rw [if_neg c2] at e
  by_cases c3 : code = 3
  · rw [if_pos c3] at e
    exact gp_rG (fun _ h => gp_turn h) _ _ e
  rw [if_neg c3] at e
  by_cases c4 : code = 4
  · rw [if_pos c4] at e
    exact gp_rG (fun _ h => gp_turn h) _ _ e
  rw [if_neg c4] at e
  by_cases c5 : code = 5
  · rw [if_pos c5] at e
    exact gp_rG (fun _ h => gp_turn h) _ _ e
  rw [if_neg c5] at e
  by_cases c6 : code = 6
  · rw [if_pos c6] at e
    cases e; rfl
  rw [if_neg c6] at e
  by_cases c7 : code = 7
  · rw [if_pos c7] at e
    cases e; rfl
  rw [if_neg c7] at e
  by_cases c8 : code = 8
  · rw [if_pos c8] at e
    split at e
    · cases e
    · cases e; rfl
  rw [if_neg c8] at e
  by_cases c9 : code = 9
  · rw [if_pos c9] at e
    cases e; rfl
  rw [if_neg c9] at e
  by_cases c10 : code = 10
  · rw [if_pos c10] at e
    split at e
    · cases e
    · cases e; rfl
  rw [if_neg c10] at e
  by_cases c11 : code = 11
  · rw [if_pos c11] at e
    cases e; rfl
  rw [if_neg c11] at e
  by_cases c12 : code = 12
  · rw [if_pos c12] at e
    split at e
    · cases e
    · cases e; rfl
  rw [if_neg c12] at e
  by_cases c13 : code = 13
  · rw [if_pos c13] at e
    cases e; rfl
  rw [if_neg c13] at e
  by_cases c14 : code = 14
  · rw [if_pos c14] at e
    cases e; rfl
  rw [if_neg c14] at e
  by_cases c15 : code = 15
  · rw [if_pos c15] at e
    cases e; rfl
  rw [if_neg c15] at e
  by_cases c16 : code = 16
  · rw [if_pos c16] at e
    cases e; rfl
  rw [if_neg c16] at e
  by_cases c17 : code = 17
  · rw [if_pos c17] at e
    cases e; rfl
  rw [if_neg c17] at e
  by_cases c18 : code = 18
  · rw [if_pos c18] at e
    cases e; rfl
  rw [if_neg c18] at e
  split at e
  · cases e
  · cases e; rfl
theorem gp_number (code : Nat) (x y : Int) (v u : Tr) (g : GS) : ∀ g' w, aNumber code x y v u g = .ok (g', w) → gGP g' = gGP g := by
  intro g' w e
  have ret : ∀ z : Int, (match inB z with
    | .ok t => (.ok (g, some t) : Except Nat (GS × Option Tr))
    | .error e => .error e) = .ok (g', w) → gGP g' = gGP g := by
    intro z e9
    cases h : inB z with
    | ok t => rw [h] at e9; cases e9; rfl
    | error k => rw [h] at e9; cases e9
  unfold aNumber at e
  dsimp only at e
  by_cases c20 : code = 20
  · rw [if_pos c20] at e
    exact ret _ e
  rw [if_neg c20] at e
  by_cases c21 : code = 21
  · rw [if_pos c21] at e
    exact ret _ e
  rw [if_neg c21] at e
  by_cases c22 : code = 22
  · rw [if_pos c22] at e
    exact ret _ e
  rw [if_neg c22] at e
  by_cases c23 : code = 23
  · rw [if_pos c23] at e
    split at e
    · cases e
    · exact ret _ e
  rw [if_neg c23] at e
  by_cases c24 : code = 24
  · rw [if_pos c24] at e
    split at e
    · cases e
    · exact ret _ e
  rw [if_neg c24] at e
  by_cases c25 : code = 25
  · rw [if_pos c25] at e
    exact ret _ e
  rw [if_neg c25] at e
  by_cases c26 : code = 26
  · rw [if_pos c26] at e
    cases e; rfl
  rw [if_neg c26] at e
  by_cases c27 : code = 27
  · rw [if_pos c27] at e
    cases e; rfl
  rw [if_neg c27] at e
  by_cases c28 : code = 28
  · rw [if_pos c28] at e
    split at e
    · cases e
    · cases e; rfl
  rw [if_neg c28] at e
  by_cases c29 : code = 29
  · rw [if_pos c29] at e
    cases e; rfl
  rw [if_neg c29] at e
  by_cases c30 : code = 30
  · rw [if_pos c30] at e
    cases e; rfl
  rw [if_neg c30] at e
  cases e; rfl
theorem gp_retM (g : GS) (n : LN) (F : List Fr) (L : List Lv) (r : Except Nat (Nat × Tr)) : cGP (retM g n F L r) = gGP g := by
  unfold retM
  split
  · rfl
  · exact gp_fail _ _ _ _ _
theorem gp_open (g : GS) (n : LN) (F : List Fr) (L : List Lv) (l : Lv) : cGP (aOpen g n F L l) = gGP g := by
  unfold aOpen
  split
  · exact gp_fail _ _ _ _ _
  · rfl
theorem gp_running (code : Nat) (v u z : Tr) (g : GS) (n : LN) (F : List Fr) (L : List Lv) : cGP (aRunning code v u z g n F L) = gGP g := by
  unfold aRunning
  by_cases c60 : code = 60
  · rw [if_pos c60]
    exact gp_open _ _ _ _ _
  rw [if_neg c60]
  by_cases c61 : code = 61
  · rw [if_pos c61]
    split
    · exact gp_open _ _ _ _ _
    · rfl
  rw [if_neg c61]
  by_cases c62 : code = 62
  · rw [if_pos c62]
    exact gp_open _ _ _ _ _
  rw [if_neg c62]
  by_cases c63 : code = 63
  · rw [if_pos c63]
    split
    · rfl
    · exact gp_open _ _ _ _ _
  rw [if_neg c63]
  by_cases c64 : code = 64
  · rw [if_pos c64]
    rfl
  rw [if_neg c64]
  by_cases c65 : code = 65
  · rw [if_pos c65]
    exact gp_open _ _ _ _ _
  rw [if_neg c65]
  by_cases c66 : code = 66
  · rw [if_pos c66]
    split
    · rfl
    · exact gp_open _ _ _ _ _
  rw [if_neg c66]
  by_cases c67 : code = 67
  · rw [if_pos c67]
    split
    · exact gp_fail _ _ _ _ _
    · split
      · exact gp_fail _ _ _ _ _
      · rfl
  rw [if_neg c67]
  by_cases c68 : code = 68
  · rw [if_pos c68]
    split
    · exact gp_fail _ _ _ _ _
    · split
      · rfl
      · split
        · exact gp_fail _ _ _ _ _
        · rfl
  rw [if_neg c68]
  by_cases c69 : code = 69
  · rw [if_pos c69]
    split
    · exact gp_fail _ _ _ _ _
    · split
      · exact gp_fail _ _ _ _ _
      · rfl
  rw [if_neg c69]
  by_cases c70 : code = 70
  · rw [if_pos c70]
    unfold aStop
    split
    · rfl
    · rfl
  rw [if_neg c70]
  by_cases c71 : code = 71
  · rw [if_pos c71]
    unfold aOutput
    split
    · exact gp_fail _ _ _ _ _
    · rfl
  rw [if_neg c71]
  by_cases c72 : code = 72
  · rw [if_pos c72]
    exact gp_open _ _ _ _ _
  rw [if_neg c72]
  by_cases c73 : code = 73
  · rw [if_pos c73]
    unfold aThrow
    split
    · exact gp_fail _ _ _ _ _
    · rfl
  rw [if_neg c73]
  rfl
theorem gp_call (w : Wt) (g : GS) (n : LN) (F : List Fr) (L : List Lv) : cGP (aCall w g n F L) = gGP g := by
  unfold aCall
  split
  · exact gp_fail _ _ _ _ _
  · rfl
/-- what bodies have beyond 600 -/
def exP (P : List Proc) : Nat := (P.map (fun p => tSz p.2.2 - 600)).sum
def gL (Z : Nat) (p : List (Nm × Tr) × List Proc) : Prop := (∀ x ∈ p.1, tSz x.2 ≤ 300) ∧ exP p.2 ≤ Z
theorem exP_set : ∀ (ps : List Proc) (k : Nat) (q : Proc), tSz q.2.2 ≤ 600 → exP (ps.set k q) ≤ exP ps := by
  intro ps
  induction ps with
  | nil => intro k q _; exact Nat.le_refl _
  | cons p ps ih =>
    intro k q hq
    cases k with
    | zero =>
      show exP (q :: ps) ≤ exP (p :: ps)
      unfold exP
      rw [List.map_cons, List.map_cons, List.sum_cons, List.sum_cons]
      omega
    | succ k =>
      show exP (p :: ps.set k q) ≤ exP (p :: ps)
      have := ih k q hq
      unfold exP at this ⊢
      rw [List.map_cons, List.map_cons, List.sum_cons, List.sum_cons]
      omega
theorem exP_tell {ps : List Proc} {w : Nm} {ins : List Nm} {b : Tr} (h : tSz b ≤ 600) : exP (pTell ps w ins b) ≤ exP ps := by
  unfold pTell
  cases pFind ps w with
  | some k => exact exP_set ps k _ h
  | none =>
    show exP (ps ++ [(w, ins, b)]) ≤ exP ps
    unfold exP
    rw [List.map_append, List.sum_append]
    simp
    omega
theorem gSet_all {G : List (Nm × Tr)} {w : Nm} {v : Tr} (h : ∀ x ∈ G, tSz x.2 ≤ 300) (hv : tSz v ≤ 300) : ∀ x ∈ gSet G w v, tSz x.2 ≤ 300 := by
  induction G with
  | nil => intro x hx; cases hx
  | cons l ls ih =>
    rw [gSet]
    split
    · intro x hx
      rcases List.mem_cons.mp hx with rfl | hx
      · exact hv
      · exact h x (List.mem_cons_of_mem _ hx)
    · intro x hx
      rcases List.mem_cons.mp hx with rfl | hx
      · exact h _ List.mem_cons_self
      · exact ih (fun y hy => h y (List.mem_cons_of_mem _ hy)) x hx
theorem gl_of {Z : Nat} {c : Cfg} {g : GS} (e : cGP c = gGP g) (h : gL Z (gGP g)) : gL Z (cGP c) := by rw [e]; exact h
theorem gl_ite {Z : Nat} {c : Prop} [Decidable c] {x y : Cfg} (h1 : gL Z (cGP x)) (h2 : gL Z (cGP y)) : gL Z (cGP (if c then x else y)) := by
  split <;> assumption
theorem gl_other {Z : Nat} (code : Nat) (v u : Tr) (g : GS) (n : LN) (F : List Fr) (L : List Lv) (h : gL Z (gGP g)) : gL Z (cGP (aOther code v u g n F L)) := by
  have bad : ∀ e, gL Z (cGP (aFail e g n F L)) := fun e => gl_of (gp_fail e g n F L) h
  unfold aOther
  refine gl_ite ?_ (gl_ite ?_ (gl_ite ?_ (gl_ite h (gl_ite ?_ (gl_ite h (gl_ite ?_ (gl_ite h (gl_ite h h))))))))
  · unfold aMake
    cases fGet F (tLet v) with
    | some x => exact h
    | none =>
      dsimp only
      rcases Classical.em (300 < tSz u) with c | c
      · rw [if_pos c]; exact bad 8
      rw [if_neg c]
      cases gGet (gGlob g) (tLet v) with
      | some x => exact ⟨gSet_all h.1 (by omega), h.2⟩
      | none =>
        dsimp only
        rcases Classical.em (64 ≤ (gGlob g).length) with d | d
        · rw [if_pos d]; exact bad 8
        · rw [if_neg d]
          refine ⟨fun x hx => ?_, h.2⟩
          rcases List.mem_append.mp hx with hx | hx
          · exact h.1 x hx
          · rw [List.mem_singleton.mp hx]
            show tSz u ≤ 300
            omega
  · cases aLocal (tLet v) F with
    | ok F' => exact h
    | error e => exact bad e
  · cases aFind F (gGlob g) (tLet v) with
    | none => exact bad 2
    | some x => exact h
  · cases hd : aDefine (tLet v) u (gProcs g) with
    | error e => exact bad e
    | ok ps =>
      refine ⟨h.1, ?_⟩
      show exP ps ≤ Z
      unfold aDefine at hd
      split at hd
      · next i b _ =>
        split at hd
        · next hc =>
          cases hi : aInputs (tMem i) with
          | none => rw [hi] at hd; cases hd
          | some ns =>
            rw [hi] at hd
            dsimp only at hd
            split at hd
            · cases hd
            · cases hd
              exact Nat.le_trans (exP_tell hc.2.2.2) h.2
        · cases hd
      · cases hd
  · cases pFind (gProcs g) (tLet v) with
    | none => exact bad 1
    | some k =>
      dsimp only
      cases (gProcs g)[k]?
      · exact bad 1
      · exact h
theorem gl_apply {Z : Nat} (c : Cfg) (h : gL Z (cGP c)) : gL Z (cGP (aApply c)) := by
  obtain ⟨g, n, F, L, ph, got, rd⟩ := c
  have h : gL Z (gGP g) := h
  show gL Z (cGP (if ph = 4 then _ else _))
  refine gl_ite ?_ ?_
  · cases L <;> exact h
  · cases rd with
    | none => exact h
    | some w =>
      refine gl_ite (gl_of (gp_call _ _ _ _ _) h) ?_
      unfold aDo
      dsimp only
      refine gl_ite (gl_of (gp_fail _ _ _ _ _) h) (gl_ite (gl_of (gp_retG _ _ _ _ _ (gp_turtle _ _ _ _)) h) (gl_ite (gl_of (gp_retG _ _ _ _ _ (gp_number _ _ _ _ _ _)) h) (gl_ite (gl_of (gp_retM _ _ _ _ _) h) (gl_ite (gl_other _ _ _ _ _ _ _ h) (gl_of (gp_running _ _ _ _ _ _ _ _) h)))))
theorem gl_step {Z : Nat} (b : Nat) (c : Cfg) (h : gL Z (cGP c)) : gL Z (cGP (aStep b c)) := by
  unfold aStep
  exact gl_ite h (gl_ite (by rw [gp_micro]; exact h) (gl_ite h (gl_ite h (gl_apply c h))))
theorem gl_it {Z : Nat} (b : Nat) : ∀ (j : Nat) (c : Cfg), gL Z (cGP c) → gL Z (cGP (aIt b j c)) := by
  intro j
  induction j with
  | zero => intro c h; exact h
  | succ j ih => intro c h; exact ih _ (gl_step b c h)
/-! cells against size -/
theorem kc_sz : ∀ (t : Tr), (tOk t 0 → kc t + 1 ≤ 4 * tSz t) ∧ (tOk t 1 → kc t = tSz t + 2) ∧ (tOk t 2 → kc t + 3 ≤ 4 * tSz t) := by
  intro t
  induction t with
  | nest n t _ => exact ⟨fun _ => by show 0 + 1 ≤ 4 * 1; decide, fun h => h.elim, fun h => h.elim⟩
  | tag c t ih =>
    refine ⟨fun h => ?_, fun h => ?_, fun h => h.elim⟩
    · have := ih.2.1 h.2.2
      show kc t + 1 + 1 ≤ 4 * (tSz t + 1)
      omega
    · have := ih.2.1 h.2.2
      show kc t + 1 = tSz t + 1 + 2
      omega
  | line => exact ⟨fun h => h.elim, fun _ => rfl, fun h => h.elim⟩
  | nil => exact ⟨fun _ => by show 1 + 1 ≤ 4 * 1; decide, fun h => h.elim, fun _ => by show 1 + 3 ≤ 4 * 1; decide⟩
  | append m t ihm iht =>
    refine ⟨fun h => ?_, fun h => h.elim, fun h => ?_⟩
    · have h1 := ihm.1 h.1
      have h2 := iht.2.2 h.2
      show kc m + 1 + kc t + 1 ≤ 4 * (tSz m + tSz t)
      omega
    · have h1 := ihm.1 h.1
      have h2 := iht.2.2 h.2
      show kc m + 1 + kc t + 3 ≤ 4 * (tSz m + tSz t)
      omega
  | _ => exact ⟨fun h => h.elim, fun h => h.elim, fun h => h.elim⟩
theorem gC_le {f : Nat → Int32} {T : Nat} {cnt : Int32} {nm vl : Nat → Int32} {G : List (Nm × Tr)} (h : rGlob f T cnt nm vl G) (hz : ∀ x ∈ G, tSz x.2 ≤ 300) : gC G ≤ 1232 * G.length := by
  obtain ⟨_, _, h3⟩ := h
  have key : ∀ (G : List (Nm × Tr)), (∀ x ∈ G, x.1.length ≤ 30 ∧ tOk x.2 0 ∧ tSz x.2 ≤ 300) → gC G ≤ 1232 * G.length := by
    intro G
    induction G with
    | nil => intro _; exact Nat.le_refl _
    | cons x G ih =>
      intro hx
      obtain ⟨a1, a2, a3⟩ := hx x List.mem_cons_self
      have := ih (fun y hy => hx y (List.mem_cons_of_mem _ hy))
      have k1 := (kc_sz x.2).1 a2
      unfold gC at this ⊢
      rw [List.map_cons, List.sum_cons, kc_tW, List.length_cons]
      omega
  refine key G (fun x hx => ?_)
  obtain ⟨j, hj, rfl⟩ := List.getElem_of_mem hx
  obtain ⟨b1, b2⟩ := h3 j hj
  exact ⟨(cV_tW.mp b1).choose_spec.2.2.2.1, (cV_ok _).1 _ b2, hz _ hx⟩
theorem kcL_words : ∀ (ins : List Nm), (∀ w ∈ ins, w.length ≤ 30) → kcL (ins.map tW) ≤ 32 * ins.length := by
  intro ins
  induction ins with
  | nil => intro _; exact Nat.le_refl _
  | cons w ins ih =>
    intro h
    have := ih (fun y hy => h y (List.mem_cons_of_mem _ hy))
    have := h w List.mem_cons_self
    unfold kcL at *
    rw [List.map_cons, List.map_cons, List.sum_cons, kc_tW, List.length_cons]
    omega
theorem pC_le {f : Nat → Int32} {T : Nat} {cnt : Int32} {nm ins bd : Nat → Int32} {P : List Proc} (h : rProc f T cnt nm ins bd P) (hz : ∀ p ∈ P, p.2.1.length ≤ 5) : pC P ≤ 2598 * P.length + 4 * exP P := by
  obtain ⟨_, _, h3⟩ := h
  have key : ∀ (P : List Proc), (∀ p ∈ P, p.1.length ≤ 30 ∧ (∀ w ∈ p.2.1, w.length ≤ 30) ∧ p.2.1.length ≤ 5 ∧ tOk p.2.2 0) → pC P ≤ 2598 * P.length + 4 * exP P := by
    intro P
    induction P with
    | nil => intro _; exact Nat.le_refl _
    | cons x P ih =>
      intro hx
      obtain ⟨a1, a2, a3, a4⟩ := hx x List.mem_cons_self
      have := ih (fun y hy => hx y (List.mem_cons_of_mem _ hy))
      have k1 := (kc_sz x.2.2).1 a4
      have k2 := kcL_words x.2.1 a2
      unfold pC exP at this ⊢
      rw [List.map_cons, List.map_cons, List.sum_cons, List.sum_cons, kc_tW, kc_tL, List.length_map, List.length_cons]
      omega
  refine key P (fun x hx => ?_)
  obtain ⟨j, hj, rfl⟩ := List.getElem_of_mem hx
  obtain ⟨b1, b2, b3⟩ := h3 j hj
  refine ⟨(cV_tW.mp b1).choose_spec.2.2.2.1, fun w hw => ?_, hz _ hx, (cV_ok _).1 _ b3⟩
  obtain ⟨q, hq, rfl⟩ := List.getElem_of_mem hw
  obtain ⟨p, _, _, hm⟩ := cV_tL.mp b2
  have := hm q (by rw [List.length_map]; exact hq)
  rw [List.getElem_map] at this
  exact (cV_tW.mp this).choose_spec.2.2.2.1

