/-! what always holds goes on to hold: values, names, levels -/
theorem iv_made {g : GS} {n : LN} {F : List Fr} {L : List Lv} {m : Nat} (h : IV g n F L) (h1 : nMade n ≤ m) (h2 : m ≤ 30000) : IV g (nSetMade n m) F L := by
  obtain ⟨a1, ⟨n1, n2, n3, n4, n5⟩, ⟨c1, c2, c3, c4, c5, c6, c7⟩, a4⟩ := h
  exact ⟨a1, ⟨n1, n2, n3, h2, n5⟩, ⟨c1, c2, c3, by show mapVals L ≤ m; omega, c5, c6, c7⟩, a4⟩
theorem iv_retM {g : GS} {n : LN} {F : List Fr} {L : List Lv} {r : Except Nat (Nat × Tr)} (h : IV g n F L) (h1 : ∀ m v, r = .ok (m, v) → nMade n ≤ m ∧ m ≤ 30000) (h2 : ∀ e, r = .error e → e ≤ 13) : aInv2 (retM g n F L r) := by
  match r, h1, h2 with
  | .ok (m, v), h1, _ => exact iv_1 (iv_made h (h1 m v rfl).1 (h1 m v rfl).2)
  | .error e, _, h2 => exact iv_fail h (h2 e rfl)
def mOk (made : Nat) (r : Except Nat (Nat × Tr)) : Prop := match r with
  | .ok (m, _) => made ≤ m ∧ m ≤ 30000
  | .error e => e ≤ 13
theorem mOk_list {made : Nat} (ms : List Tr) : mOk made (aList made ms) := by
  unfold aList
  by_cases c : 600 < tSz (tL ms) ∨ 30000 < made + ms.length + 1
  · rw [if_pos c]; exact (by decide : 8 ≤ 13)
  · rw [if_neg c]; exact ⟨by omega, by omega⟩
theorem mOk_join {made : Nat} (v u : Tr) : mOk made (aJoin made v u) := by
  unfold aJoin
  dsimp only
  split
  · next k _ =>
    by_cases c : 30000 < made + (aNumS k).length
    · rw [if_pos c]; exact (by decide : 8 ≤ 13)
    · rw [if_neg c]; exact ⟨by omega, by omega⟩
  · by_cases c : 30 < (aSh v 0 ++ aSh u 0).length ∨ 30000 < made + (aSh v 0 ++ aSh u 0).length
    · rw [if_pos c]; exact (by decide : 8 ≤ 13)
    · rw [if_neg c]; exact ⟨by omega, by omega⟩
  · exact (by decide : 9 ≤ 13)
theorem aItem_e {k : Int} {l : Tr} {e : Nat} (h : aItem k l = .error e) : e ≤ 13 := by
  unfold aItem at h
  split at h
  · split at h
    · cases h
    · cases h; decide
  · cases h; decide
theorem mOk_value {made code : Nat} {v u : Tr} (hm : made ≤ 30000) : mOk made (aValue code v u made) := by
  have ok : ∀ t, mOk made (.ok (made, t)) := fun t => ⟨Nat.le_refl _, hm⟩
  have it : ∀ k l, mOk made (match aItem k l with
    | .ok t => .ok (made, t)
    | .error e => .error e) := by
    intro k l
    cases e : aItem k l with
    | ok t => exact ok t
    | error j => exact aItem_e e
  unfold aValue
  dsimp only
  by_cases c32 : code = 32
  · rw [if_pos c32]
    exact ok _
  rw [if_neg c32]
  by_cases c33 : code = 33
  · rw [if_pos c33]
    exact ok _
  rw [if_neg c33]
  by_cases c34 : code = 34
  · rw [if_pos c34]
    exact ok _
  rw [if_neg c34]
  by_cases c35 : code = 35
  · rw [if_pos c35]
    exact ok _
  rw [if_neg c35]
  by_cases c36 : code = 36
  · rw [if_pos c36]
    exact ok _
  rw [if_neg c36]
  by_cases c37 : code = 37
  · rw [if_pos c37]
    exact ok _
  rw [if_neg c37]
  by_cases c38 : code = 38
  · rw [if_pos c38]
    exact it _ _
  rw [if_neg c38]
  by_cases c39 : code = 39
  · rw [if_pos c39]
    exact it _ _
  rw [if_neg c39]
  by_cases c40 : code = 40
  · rw [if_pos c40]
    by_cases c9 : tMem v = []
    · rw [if_pos c9]; exact (by decide : 3 ≤ 13)
    · rw [if_neg c9]; exact mOk_list _
  rw [if_neg c40]
  by_cases c41 : code = 41
  · rw [if_pos c41]
    by_cases c9 : tMem v = []
    · rw [if_pos c9]; exact (by decide : 3 ≤ 13)
    · rw [if_neg c9]; exact mOk_list _
  rw [if_neg c41]
  by_cases c42 : code = 42
  · rw [if_pos c42]
    exact it _ _
  rw [if_neg c42]
  by_cases c43 : code = 43
  · rw [if_pos c43]
    exact mOk_list _
  rw [if_neg c43]
  by_cases c44 : code = 44
  · rw [if_pos c44]
    exact mOk_list _
  rw [if_neg c44]
  by_cases c45 : code = 45
  · rw [if_pos c45]
    exact mOk_list _
  rw [if_neg c45]
  by_cases c46 : code = 46
  · rw [if_pos c46]
    exact mOk_list _
  rw [if_neg c46]
  by_cases c47 : code = 47
  · rw [if_pos c47]
    exact ok _
  rw [if_neg c47]
  by_cases c48 : code = 48
  · rw [if_pos c48]
    exact mOk_list _
  rw [if_neg c48]
  exact mOk_join v u
theorem iv_value {g : GS} {n : LN} {F : List Fr} {L : List Lv} {code : Nat} {v u : Tr} (h : IV g n F L) : aInv2 (retM g n F L (aValue code v u (nMade n))) := by
  have := mOk_value (code := code) (v := v) (u := u) h.2.1.2.2.2.1
  refine iv_retM h (fun m v e => ?_) (fun e he => ?_)
  · rw [e] at this; exact this
  · rw [he] at this; exact this
theorem lSet_ok (w : Nm) (v : Tr) : ∀ l : List Loc, (lSet l w v).length = l.length ∧ (lSet l w v).map (·.1) = l.map (·.1) := by
  intro l
  induction l with
  | nil => exact ⟨rfl, rfl⟩
  | cons x l ih =>
    rw [lSet]
    split
    · next e => exact ⟨rfl, by rw [List.map_cons, List.map_cons]; show w :: _ = _; rw [← e]⟩
    · exact ⟨by rw [List.length_cons, List.length_cons, ih.1], by rw [List.map_cons, List.map_cons, ih.2]⟩
theorem fSet_ok (w : Nm) (v : Tr) : ∀ F : List Fr, (fSet F w v).length = F.length ∧ ((∀ f ∈ F, f.2.length ≤ 12) → ∀ f ∈ fSet F w v, f.2.length ≤ 12) ∧ (frNd F → frNd (fSet F w v)) := by
  intro F
  induction F with
  | nil => exact ⟨rfl, id, id⟩
  | cons f F ih =>
    rw [fSet]
    obtain ⟨i1, i2, i3⟩ := ih
    split
    · obtain ⟨l1, l2⟩ := lSet_ok w v f.2
      refine ⟨rfl, fun h x hx => ?_, fun h x hx => ?_⟩
      · rcases List.mem_cons.mp hx with e | e
        · rw [e]; show (lSet f.2 w v).length ≤ 12; rw [l1]; exact h f List.mem_cons_self
        · exact h x (List.mem_cons_of_mem _ e)
      · rcases List.mem_cons.mp hx with e | e
        · rw [e]; show ((lSet f.2 w v).map (·.1)).Nodup; rw [l2]; exact h f List.mem_cons_self
        · exact h x (List.mem_cons_of_mem _ e)
    · refine ⟨by rw [List.length_cons, List.length_cons, i1], fun h x hx => ?_, fun h x hx => ?_⟩
      · rcases List.mem_cons.mp hx with e | e
        · rw [e]; exact h f List.mem_cons_self
        · exact i2 (fun y hy => h y (List.mem_cons_of_mem _ hy)) x e
      · rcases List.mem_cons.mp hx with e | e
        · rw [e]; exact h f List.mem_cons_self
        · exact i3 (fun y hy => h y (List.mem_cons_of_mem _ hy)) x e
theorem iv_fr {g : GS} {n : LN} {F : List Fr} {L : List Lv} {F' : List Fr} (h : IV g n F L) (h1 : F'.length = F.length) (h2 : ∀ f ∈ F', f.2.length ≤ 12) (h3 : frNd F') : IV g n F' L := by
  obtain ⟨a1, a2, ⟨c1, c2, c3, c4, c5, c6, c7⟩, a4⟩ := h
  exact ⟨a1, a2, ⟨c1, c2, c3, c4, by rw [h1]; exact c5, h2, h3⟩, a4⟩
theorem iv_glob {g : GS} {n : LN} {F : List Fr} {L : List Lv} {gl : List (Nm × Tr)} (h : IV g n F L) (h1 : gl.length ≤ 64) : IV (gSetGlob g gl) n F L := ⟨⟨h.1.1, h.1.2.1, h.1.2.2.1, h1, h.1.2.2.2.2⟩, h.2⟩
theorem gSet_len (w : Nm) (v : Tr) : ∀ l : List (Nm × Tr), (gSet l w v).length = l.length := by
  intro l
  induction l with
  | nil => rfl
  | cons x l ih =>
    rw [gSet]
    split
    · rfl
    · rw [List.length_cons, List.length_cons, ih]
theorem lGet_none2 {w : Nm} : ∀ l : List Loc, lGet l w = none → w ∉ l.map (·.1) := by
  intro l
  induction l with
  | nil => intro _ h; cases h
  | cons x l ih =>
    intro h hm
    rw [lGet] at h
    split at h
    · cases h
    · next hx =>
      rw [List.map_cons] at hm
      rcases List.mem_cons.mp hm with e | e
      · exact hx e.symm
      · exact ih h e
theorem iv_make {g : GS} {n : LN} {F : List Fr} {L : List Lv} {w : Nm} {v : Tr} (h : IV g n F L) : aInv2 (match aMake w v g F with
    | .ok (g', F') => (g', n, F', L, 1, none, none)
    | .error e => aFail e g n F L) := by
  unfold aMake
  cases e : fGet F w with
  | some x =>
    obtain ⟨f1, f2, f3⟩ := fSet_ok w v F
    exact iv_1 (iv_fr h f1 (f2 h.2.2.1.2.2.2.2.2.1) (f3 h.2.2.1.2.2.2.2.2.2))
  | none =>
    dsimp only
    by_cases c : 300 < tSz v
    · rw [if_pos c]; exact iv_fail h (by decide)
    rw [if_neg c]
    cases e2 : gGet (gGlob g) w with
    | some x => exact iv_1 (iv_glob h (by rw [gSet_len]; exact h.1.2.2.2.1))
    | none =>
      dsimp only
      by_cases c2 : 64 ≤ (gGlob g).length
      · rw [if_pos c2]; exact iv_fail h (by decide)
      · rw [if_neg c2]; exact iv_1 (iv_glob h (by rw [List.length_append, List.length_singleton]; omega))
theorem iv_local {g : GS} {n : LN} {F : List Fr} {L : List Lv} {w : Nm} (h : IV g n F L) : aInv2 (match aLocal w F with
    | .ok F' => (g, n, F', L, 1, none, none)
    | .error e => aFail e g n F L) := by
  unfold aLocal
  cases F with
  | nil => exact iv_fail h (by decide)
  | cons f R =>
    dsimp only
    cases e : lGet f.2 w with
    | some x => exact iv_1 h
    | none =>
      dsimp only
      by_cases c : 12 ≤ f.2.length
      · rw [if_pos c]; exact iv_fail h (by decide)
      · rw [if_neg c]
        refine iv_1 (iv_fr h rfl (fun x hx => ?_) (fun x hx => ?_))
        · rcases List.mem_cons.mp hx with e9 | e9
          · rw [e9]; show (f.2 ++ [(w, none)]).length ≤ 12; rw [List.length_append, List.length_singleton]; omega
          · exact h.2.2.1.2.2.2.2.2.1 x (List.mem_cons_of_mem _ e9)
        · rcases List.mem_cons.mp hx with e9 | e9
          · rw [e9]
            show ((f.2 ++ [(w, (none : Option Tr))]).map Prod.fst).Nodup
            rw [List.map_append, List.nodup_append]
            refine ⟨h.2.2.1.2.2.2.2.2.2 f List.mem_cons_self, by simp, ?_⟩
            intro x hx y hy e8
            have hy : y ∈ [w] := hy
            rw [List.mem_singleton] at hy
            rw [e8, hy] at hx
            exact lGet_none2 f.2 e hx
          · exact h.2.2.1.2.2.2.2.2.2 x (List.mem_cons_of_mem _ e9)
theorem pTell_len {ps : List Proc} {w : Nm} {ins : List Nm} {b : Tr} (h : ps.length ≤ 40) (h2 : ¬ (pFind ps w = none ∧ 40 ≤ ps.length)) : (pTell ps w ins b).length ≤ 40 := by
  unfold pTell
  cases e : pFind ps w with
  | some k => show (ps.set k (w, ins, b)).length ≤ 40; rw [List.length_set]; exact h
  | none =>
    show (ps ++ [(w, ins, b)]).length ≤ 40
    rw [List.length_append, List.length_singleton]
    have : ¬ 40 ≤ ps.length := fun h9 => h2 ⟨e, h9⟩
    omega
theorem iv_define {g : GS} {n : LN} {F : List Fr} {L : List Lv} {w : Nm} {l : Tr} (h : IV g n F L) : aInv2 (match aDefine w l (gProcs g) with
    | .ok ps => (gSetProcs g ps, n, F, L, 1, none, none)
    | .error e => aFail e g n F L) := by
  unfold aDefine
  match tMem l with
  | [] => exact iv_fail h (by decide)
  | [_] => exact iv_fail h (by decide)
  | _ :: _ :: _ :: _ => exact iv_fail h (by decide)
  | [i, b] =>
    dsimp only
    by_cases c : aLex w = 0 ∧ isL i = true ∧ isL b = true ∧ tSz b ≤ 600
    · rw [if_pos c]
      unfold aInputs
      by_cases c2 : (tMem i).length ≤ 5 ∧ (∀ v ∈ tMem i, isW v = true) ∧ ((tMem i).map tLet).Nodup
      · rw [if_pos c2]
        dsimp only
        by_cases c3 : pFind (gProcs g) w = none ∧ 40 ≤ (gProcs g).length
        · rw [if_pos c3]; exact iv_fail h (by decide)
        · rw [if_neg c3]
          refine iv_1 ⟨⟨h.1.1, pTell_len h.1.2.1 c3, ?_, h.1.2.2.2⟩, h.2⟩
          exact pOk_tell h.1.2.2.1 ⟨by show ((tMem i).map tLet).length ≤ 5; rw [List.length_map]; exact c2.1, c2.2.2, c.2.2.1⟩
      · rw [if_neg c2]; exact iv_fail h (by decide)
    · rw [if_neg c]; exact iv_fail h (by decide)
theorem iv_other {g : GS} {n : LN} {F : List Fr} {L : List Lv} {code : Nat} {v u : Tr} (h : IV g n F L) : aInv2 (aOther code v u g n F L) := by
  unfold aOther
  by_cases c50 : code = 50
  · rw [if_pos c50]
    exact iv_make h
  rw [if_neg c50]
  by_cases c51 : code = 51
  · rw [if_pos c51]
    exact iv_local h
  rw [if_neg c51]
  by_cases c52 : code = 52
  · rw [if_pos c52]
    cases aFind F (gGlob g) (tLet v) with
    | none => exact iv_fail h (by decide)
    | some x => exact iv_1 h
  rw [if_neg c52]
  by_cases c53 : code = 53
  · rw [if_pos c53]
    exact iv_1 h
  rw [if_neg c53]
  by_cases c54 : code = 54
  · rw [if_pos c54]
    exact iv_define h
  rw [if_neg c54]
  by_cases c55 : code = 55
  · rw [if_pos c55]
    exact iv_1 h
  rw [if_neg c55]
  by_cases c56 : code = 56
  · rw [if_pos c56]
    cases pFind (gProcs g) (tLet v) with
    | none => exact iv_fail h (by decide)
    | some k =>
      dsimp only
      cases (gProcs g)[k]? with
      | none => exact iv_fail h (by decide)
      | some p => exact iv_1 h
  rw [if_neg c56]
  by_cases c57 : code = 57
  · rw [if_pos c57]
    exact iv_1 h
  rw [if_neg c57]
  by_cases c58 : code = 58
  · rw [if_pos c58]
    exact iv_1 h
  rw [if_neg c58]
  exact iv_1 h
theorem iv_new {g : GS} {n : LN} {F : List Fr} {L : List Lv} {k lim mark : Nat} {lst oth tag : Tr} {F' : List Fr} (h : IV g n F L) (hL : L.length < 150) (ho : lOk (lNew k lst lim oth mark tag)) (hF : F'.length = (if k = 1 then 1 else 0) + F.length) (h2 : ∀ f ∈ F', f.2.length ≤ 12) (h3 : frNd F') : IV g n F' (lNew k lst lim oth mark tag :: L) := by
  obtain ⟨a1, a2, ⟨c1, c2, c3, c4, c5, c6, c7⟩, a4⟩ := h
  refine ⟨a1, a2, ⟨fun x hx => ?_, by rw [List.length_cons]; omega, ?_, ?_, ?_, h2, h3⟩, fun hs => lvBot_cons (a4 hs)⟩
  · rcases List.mem_cons.mp hx with e | e
    · rw [e]; exact ho
    · exact c1 x e
  · rw [lvWaits]; show 0 + lvWaits L ≤ 400; omega
  · rw [mapVals]; show 0 + mapVals L ≤ _; omega
  · rw [lvCalls, hF, c5]; rfl
theorem lOk_new {k lim mark : Nat} {lst oth tag : Tr} (h1 : k ≤ 10) (h2 : isL lst = true) (h3 : lim ≤ 1000000000) (h4 : k = 3 → 1 ≤ lim) (h5 : k = 5 ∨ k = 10 → 1 ≤ (tMem oth).length) (h6 : k = 4 ∨ k = 5 ∨ k = 9 ∨ k = 10 → isL oth = true) (h7 : k = 10 → lim = 1) (h8 : k = 1 → mark < 40) (h9 : k = 7 → mark < 8) (h10 : k = 8 → isW tag = true) : lOk (lNew k lst lim oth mark tag) := ⟨h1, h2, Nat.zero_le _, Nat.le_refl _, (by show 1 ≤ 1000000000; decide), h3, h4, h5, h6, fun e => ⟨by show lim ≤ 600; rw [h7 e]; decide, by show tSz (tL []) = lim; rw [h7 e, tSz_tL]; rfl⟩, fun _ => rfl, h8, h9, h10, (fun w hw => by cases hw)⟩
theorem iv_open {g : GS} {n : LN} {F : List Fr} {L : List Lv} {k lim mark : Nat} {lst oth tag : Tr} (h : IV g n F L) (hk : k ≠ 1) (ho : lOk (lNew k lst lim oth mark tag)) : aInv2 (aOpen g n F L (lNew k lst lim oth mark tag)) := by
  unfold aOpen
  by_cases c : 150 ≤ L.length
  · rw [if_pos c]; exact iv_fail h (by decide)
  · rw [if_neg c]
    exact iv_0 (iv_new h (by omega) ho (by rw [if_neg hk, Nat.zero_add]) h.2.2.1.2.2.2.2.2.1 h.2.2.1.2.2.2.2.2.2)
theorem iv_call {g : GS} {n : LN} {F : List Fr} {L : List Lv} {w : Wt} (h : IV g n F L) (hk : wK w = 2) (hw : wOk w) (hv9 : (wVals w).length = wNeed w) : aInv2 (aCall w g n F L) := by
  unfold aCall
  by_cases c : 150 ≤ L.length
  · rw [if_pos c]; exact iv_fail h (by decide)
  · rw [if_neg c]
    obtain ⟨w1, w2, w3, w4, w5, w6, w7, w8⟩ := hw
    obtain ⟨v1, v2, v3, v4⟩ := w6 hk
    refine iv_0 (iv_new h (by omega) (lOk_new (by decide) v4 (by decide) (by decide) (fun e => by rcases e with e | e <;> cases e) (fun e => by rcases e with e | e | e | e <;> cases e) (fun e => by cases e) (fun _ => v1) (fun e => by cases e) (fun e => by cases e)) (by rw [if_pos rfl, List.length_cons]; omega) ?_ ?_)
    · intro f hf
      rcases List.mem_cons.mp hf with e | e
      · rw [e]
        show ((wNames w).zip ((wVals w).map some)).length ≤ 12
        rw [List.length_zip]
        omega
      · exact h.2.2.1.2.2.2.2.2.1 f e
    · intro f hf
      rcases List.mem_cons.mp hf with e | e
      · rw [e]
        show (((wNames w).zip ((wVals w).map some)).map Prod.fst).Nodup
        rw [List.map_fst_zip (by rw [List.length_map]; omega)]
        exact v3
      · exact h.2.2.1.2.2.2.2.2.2 f e

theorem fit_1 {k : Nat} {ks : List Nat} {v : Tr} {vs : List Tr} (h : aFits (k :: ks) (v :: vs) = true) : aFit1 k v = true ∧ aFits ks vs = true := by
  have h : (aFit1 k v && aFits ks vs) = true := h
  rw [Bool.and_eq_true] at h
  exact h
theorem fit_0 {k : Nat} {ks : List Nat} {vs : List Tr} (h : aFits (k :: ks) vs = true) : ∃ v ws, vs = v :: ws ∧ aFit1 k v = true ∧ aFits ks ws = true := by
  cases vs with
  | nil => cases h
  | cons v ws => exact ⟨v, ws, rfl, fit_1 h⟩
theorem iv_stop {g : GS} {n : LN} {F : List Fr} {L : List Lv} (h : IV g n F L) : aInv2 (aStop g n F L) := by
  unfold aStop
  split
  · exact iv_finish h (Or.inl rfl) (by decide)
  · next k hk =>
    refine iv_leave h (fun hs => lvBot_at ?_ L k hk (h.2.2.2 hs))
    intro l hl e9
    unfold isCall at hl
    rw [e9] at hl
    exact absurd hl (by decide)
theorem iv_output {g : GS} {n : LN} {F : List Fr} {L : List Lv} {v : Tr} (h : IV g n F L) : aInv2 (aOutput v g n F L) := by
  unfold aOutput
  split
  · exact iv_fail h (by decide)
  · next k hk =>
    refine iv_leave h (fun hs => lvBot_at ?_ L k hk (h.2.2.2 hs))
    intro l hl e9
    unfold isCall at hl
    rw [e9] at hl
    exact absurd hl (by decide)
theorem iv_throw {g : GS} {n : LN} {F : List Fr} {L : List Lv} {w : List Nat} (h : IV g n F L) : aInv2 (aThrow w g n F L) := by
  unfold aThrow
  split
  · exact iv_fail h (by decide)
  · next k hk =>
    refine iv_leave h (fun hs => lvBot_at ?_ L k hk (h.2.2.2 hs))
    intro l hl e9
    unfold isTag at hl
    rw [e9] at hl
    exact absurd hl (by simp)
theorem iv_running {g : GS} {n : LN} {F : List Fr} {L : List Lv} {code : Nat} {vs : List Tr} (h : IV g n F L) (h1 : 60 ≤ code) (h2 : code ≤ 74) (hf : aFits (aKind code) vs = true) (hb : ∀ v ∈ vs, isN v = true → -1000000000 ≤ tNum v ∧ tNum v ≤ 1000000000) : aInv2 (aRunning code (vs.getD 0 .nil) (vs.getD 1 .nil) (vs.getD 2 .nil) g n F L) := by
  have nw : ∀ {k : Nat} {lst : Tr}, (k = 2 ∨ k = 6) → isL lst = true → lOk (lNew k lst 1 .nil 0 .nil) := by
    intro k lst hk hi
    exact lOk_new (by omega) hi (by decide) (fun e => by omega) (fun e => by omega) (fun e => by omega) (fun e => by omega) (fun e => by omega) (fun e => by omega) (fun e => by omega)
  unfold aRunning
  rcases (by omega : code = 60 ∨ code = 61 ∨ code = 62 ∨ code = 63 ∨ code = 64 ∨ code = 65 ∨ code = 66 ∨ code = 67 ∨ code = 68 ∨ code = 69 ∨ code = 70 ∨ code = 71 ∨ code = 72 ∨ code = 73 ∨ code = 74) with rfl | rfl | rfl | rfl | rfl | rfl | rfl | rfl | rfl | rfl | rfl | rfl | rfl | rfl | rfl
  · obtain ⟨v, ws, rfl, f1, f2⟩ := fit_0 (k := 108) hf
    simp only [Nat.reduceEqDiff, if_true, if_false]
    exact iv_open h (by decide) (nw (Or.inr rfl) f1)
  · obtain ⟨v, ws, rfl, f1, f2⟩ := fit_0 (k := 98) hf
    obtain ⟨u, ws, rfl, f3, f4⟩ := fit_0 (k := 108) f2
    simp only [Nat.reduceEqDiff, if_true, if_false]
    split
    · exact iv_open h (by decide) (nw (Or.inl rfl) f3)
    · exact iv_1 h
  · obtain ⟨v, ws, rfl, f1, f2⟩ := fit_0 (k := 98) hf
    obtain ⟨u, ws, rfl, f3, f4⟩ := fit_0 (k := 108) f2
    obtain ⟨z, ws, rfl, f5, f6⟩ := fit_0 (k := 108) f4
    simp only [Nat.reduceEqDiff, if_true, if_false]
    refine iv_open h (by decide) (nw (Or.inr rfl) ?_)
    split
    · exact f3
    · exact f5
  · obtain ⟨v, ws, rfl, f1, f2⟩ := fit_0 (k := 110) hf
    obtain ⟨u, ws, rfl, f3, f4⟩ := fit_0 (k := 108) f2
    have hv := hb v List.mem_cons_self f1
    simp only [Nat.reduceEqDiff, if_true, if_false]
    split
    · exact iv_1 h
    · next hz =>
      have hz : ¬ tNum v ≤ 0 := hz
      exact iv_open h (by decide) (lOk_new (by decide) f3 (by show (tNum v).toNat ≤ _; omega) (fun _ => by show 1 ≤ (tNum v).toNat; omega) (fun e => by omega) (fun e => by omega) (fun e => by omega) (fun e => by omega) (fun e => by omega) (fun e => by omega))
  · simp only [Nat.reduceEqDiff, if_true, if_false]
    exact iv_1 h
  · obtain ⟨v, ws, rfl, f1, f2⟩ := fit_0 (k := 108) hf
    obtain ⟨u, ws, rfl, f3, f4⟩ := fit_0 (k := 108) f2
    simp only [Nat.reduceEqDiff, if_true, if_false]
    exact iv_open h (by decide) (lOk_new (by decide) f1 (by decide) (fun e => by omega) (fun e => by omega) (fun _ => f3) (fun e => by omega) (fun e => by omega) (fun e => by omega) (fun e => by omega))
  · obtain ⟨v, ws, rfl, f1, f2⟩ := fit_0 (k := 108) hf
    obtain ⟨u, ws, rfl, f3, f4⟩ := fit_0 (k := 108) f2
    simp only [Nat.reduceEqDiff, if_true, if_false]
    split
    · exact iv_1 h
    · next hz => exact iv_open h (by decide) (lOk_new (by decide) f3 (by decide) (fun e => by omega) (fun _ => List.length_pos_iff.mpr hz) (fun _ => f1) (fun e => by omega) (fun e => by omega) (fun e => by omega) (fun e => by omega))
  · simp only [Nat.reduceEqDiff, if_true, if_false]
    split
    · exact iv_fail h (by decide)
    · split
      · exact iv_fail h (by decide)
      · exact iv_1 h
  · obtain ⟨v, ws, rfl, f1, f2⟩ := fit_0 (k := 108) hf
    obtain ⟨u, ws, rfl, f3, f4⟩ := fit_0 (k := 108) f2
    simp only [Nat.reduceEqDiff, if_true, if_false]
    by_cases c1 : 30000 ≤ nMade n
    · rw [if_pos c1]; exact iv_fail h (by decide)
    rw [if_neg c1]
    have h' := iv_made (m := nMade n + 1) h (by omega) (by omega)
    by_cases c2 : tMem v = []
    · rw [if_pos (show tMem ((v :: u :: ws).getD 0 Std.Format.nil) = [] from c2)]; exact iv_1 h'
    rw [if_neg (show ¬ tMem ((v :: u :: ws).getD 0 Std.Format.nil) = [] from c2)]
    by_cases c3 : 150 ≤ L.length
    · rw [if_pos c3]; exact iv_fail h (by decide)
    rw [if_neg c3]
    exact iv_0 (iv_new h' (by omega) (lOk_new (by decide) f3 (by decide) (fun e => by omega) (fun _ => List.length_pos_iff.mpr c2) (fun _ => f1) (fun _ => rfl) (fun e => by omega) (fun e => by omega) (fun e => by omega)) (by rw [if_neg (by decide), Nat.zero_add]) h.2.2.1.2.2.2.2.2.1 h.2.2.1.2.2.2.2.2.2)
  · obtain ⟨v, ws, rfl, f1, f2⟩ := fit_0 (k := 110) hf
    obtain ⟨u, ws, rfl, f3, f4⟩ := fit_0 (k := 108) f2
    simp only [Nat.reduceEqDiff, if_true, if_false]
    by_cases c1 : tNum v < 0 ∨ 7 < tNum v
    · rw [if_pos (show tNum ((v :: u :: ws).getD 0 Std.Format.nil) < 0 ∨ 7 < tNum ((v :: u :: ws).getD 0 Std.Format.nil) from c1)]; exact iv_fail h (by decide)
    rw [if_neg (show ¬ (tNum ((v :: u :: ws).getD 0 Std.Format.nil) < 0 ∨ 7 < tNum ((v :: u :: ws).getD 0 Std.Format.nil)) from c1)]
    by_cases c3 : 150 ≤ L.length
    · rw [if_pos c3]; exact iv_fail h (by decide)
    rw [if_neg c3]
    have h' : IV (gSetTold g (tNum v).toNat) n F L := ⟨gOk_told h.1 (by omega), h.2⟩
    exact iv_0 (iv_new h' (by omega) (lOk_new (by decide) f3 (by decide) (fun e => by omega) (fun e => by omega) (fun e => by omega) (fun e => by omega) (fun e => by omega) (fun _ => h.1.1) (fun e => by omega)) (by rw [if_neg (by decide), Nat.zero_add]) h.2.2.1.2.2.2.2.2.1 h.2.2.1.2.2.2.2.2.2)
  · simp only [Nat.reduceEqDiff, if_true, if_false]
    exact iv_stop h
  · simp only [Nat.reduceEqDiff, if_true, if_false]
    exact iv_output h
  · obtain ⟨v, ws, rfl, f1, f2⟩ := fit_0 (k := 119) hf
    obtain ⟨u, ws, rfl, f3, f4⟩ := fit_0 (k := 108) f2
    simp only [Nat.reduceEqDiff, if_true, if_false]
    exact iv_open h (by decide) (lOk_new (by decide) f3 (by decide) (fun e => by omega) (fun e => by omega) (fun e => by omega) (fun e => by omega) (fun e => by omega) (fun e => by omega) (fun _ => f1))
  · simp only [Nat.reduceEqDiff, if_true, if_false]
    exact iv_throw h
  · simp only [Nat.reduceEqDiff, if_true, if_false]
    obtain ⟨a1, ⟨n1, n2, n3, n4, n5⟩, a3, a4⟩ := h
    exact iv_1 ⟨a1, ⟨n1, n2, n3, n4, Nat.zero_le _⟩, a3, a4⟩

