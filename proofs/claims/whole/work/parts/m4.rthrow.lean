/-! stop, output, throw in the reference; what words leave as it was -/
theorem lvTold_ind : ∀ (L : List Lv) (t t' : Nat), 0 < lvCn k7 L → lvTold L t = lvTold L t' := by
  intro L
  induction L with
  | nil => intro t t' h; exact absurd h (Nat.lt_irrefl 0)
  | cons x L ih =>
    intro t t' h
    have c : lvCn k7 (x :: L) = (if k7 (lK x) then 1 else 0) + lvCn k7 L := rfl
    rw [lvTold, lvTold]
    rcases Classical.em (lK x = 7) with e | e
    · rw [if_pos e, if_pos e]
    · rw [if_neg e, if_neg e]
      rw [if_neg (by unfold k7; simp; exact e)] at c
      exact ih t t' (by omega)
theorem rAs_G {i i' : Nat → Int32} {G G' : GS} {L : List Lv} (h : rAs i G L) (h1 : i' 118 = i 118) (h2 : i' 103 = i 103) (h3 : i' 104 = i 104) : rAs i' G' L := ⟨h1.trans h.1, h2.trans h.2.1, fun hp => by rw [h3, h.2.2 hp, lvTold_ind L (gTold G) (gTold G') hp]⟩
/-- state and done are as they were where the levels are the same -/
def sdQ (N : LN) (L : List Lv) (c : Cfg) : Prop := c.2.2.2.1 = L → L ≠ [] → nState c.2.1 = nState N ∧ nDone c.2.1 = nDone N
theorem sd_drop {N : LN} {L : List Lv} {c : Cfg} {k : Nat} (h : c.2.2.2.1 = L.drop (k + 1)) : sdQ N L c := by
  intro h1 h2
  rw [h] at h1
  have := congrArg List.length h1
  rw [List.length_drop] at this
  have : L.length ≠ 0 := fun e => h2 (List.length_eq_zero_iff.mp e)
  omega
theorem sd_nil {N : LN} {L : List Lv} {c : Cfg} (h : c.2.2.2.1 = []) : sdQ N L c := fun h1 h2 => absurd (h1.symm.trans h) h2
theorem sd_cons {N : LN} {L : List Lv} {c : Cfg} {x : Lv} (h : c.2.2.2.1 = x :: L) : sdQ N L c := by
  intro h1 _
  rw [h] at h1
  have := congrArg List.length h1
  rw [List.length_cons] at this
  omega
theorem sd_fail (e : Nat) (g : GS) (n : LN) (F : List Fr) (L : List Lv) : sdQ n L (aFail e g n F L) := by
  unfold aFail
  split
  · exact sd_nil rfl
  · exact sd_drop rfl
theorem sd_same {g : GS} {n n' : LN} {F : List Fr} {L : List Lv} {p : Nat} {v : Option Tr} {w : Option Wt} (h1 : nState n' = nState n) (h2 : nDone n' = nDone n) : sdQ n L (g, n', F, L, p, v, w) := fun _ _ => ⟨h1, h2⟩
theorem sd_open (g : GS) (n : LN) (F : List Fr) (L : List Lv) (x : Lv) : sdQ n L (aOpen g n F L x) := by
  unfold aOpen
  split
  · exact sd_fail _ _ _ _ _
  · exact sd_cons rfl
theorem sd_retG (g : GS) (n : LN) (F : List Fr) (L : List Lv) (r : Except Nat (GS × Option Tr)) : sdQ n L (retG g n F L r) := by
  cases r with
  | error e => exact sd_fail _ _ _ _ _
  | ok p => exact sd_same rfl rfl
theorem sd_retM (g : GS) (n : LN) (F : List Fr) (L : List Lv) (r : Except Nat (Nat × Tr)) : sdQ n L (retM g n F L r) := by
  cases r with
  | error e => exact sd_fail _ _ _ _ _
  | ok p => exact sd_same rfl rfl
theorem sd_other (code : Nat) (v u : Tr) (g : GS) (n : LN) (F : List Fr) (L : List Lv) : sdQ n L (aOther code v u g n F L) := by
  rw [eC_O]
  unfold rOth
  repeat' split
  all_goals first
    | exact sd_same rfl rfl
    | exact sd_fail _ _ _ _ _
theorem sd_run3 {code : Nat} (v u z : Tr) (g : GS) (n : LN) (F : List Fr) (L : List Lv) (hc : code = 64 ∨ code = 67 ∨ code = 74) : sdQ n L (aRunning code v u z g n F L) := by
  rw [eC_R hc]
  unfold rRun
  repeat' split
  all_goals first
    | exact sd_same rfl rfl
    | exact sd_fail _ _ _ _ _
theorem pr_code : ∀ p, p < 74 → pRuns p = false → pCode p ≤ 59 ∨ pCode p = 64 ∨ pCode p = 67 ∨ pCode p = 74 := by decide +kernel
theorem sd_do {p : Nat} (hp : p < 74) (hr : pRuns p = false) (vs : List Tr) (g : GS) (n : LN) (F : List Fr) (L : List Lv) : sdQ n L (aDo (pCode p) vs g n F L) := by
  unfold aDo
  dsimp only
  split
  · exact sd_fail _ _ _ _ _
  split
  · exact sd_retG _ _ _ _ _
  split
  · exact sd_retG _ _ _ _ _
  split
  · exact sd_retM _ _ _ _ _
  split
  · exact sd_other _ _ _ _ _ _ _
  · exact sd_run3 _ _ _ _ _ _ _ (by have := pr_code p hp hr; omega)
theorem e13 {e : Nat} {g : GS} {n : LN} {F : List Fr} {L : List Lv} (h : aInv2 (aFail e g n F L)) : e ≤ 13 := by
  unfold aFail at h
  split at h
  · exact h.1.2.1.2.1
  · exact h.1.2.1.2.2.2.2
theorem lvAt_calls : ∀ L : List Lv, lvAt isCall L = none ↔ lvCalls L = 0 := by
  intro L
  induction L with
  | nil => exact ⟨fun _ => rfl, fun _ => rfl⟩
  | cons x L ih =>
    rw [lvCalls]
    rcases Classical.em (lK x = 1) with e | e
    · rw [lvAt_yes (by unfold isCall; rw [e]; rfl), if_pos e]
      exact ⟨fun h => (by cases h), fun h => (by omega)⟩
    · rw [lvAt_no (by unfold isCall; exact beq_eq_false_iff_ne.mpr e), if_neg e, Nat.zero_add, ← ih]
      cases lvAt isCall L with
      | none => exact ⟨fun _ => rfl, fun _ => rfl⟩
      | some k => exact ⟨fun h => (by cases h), fun h => (by cases h)⟩
/-- the tags that are caught -/
theorem tag_lem {a : Nat → Nat → Int32} {b : Nat → Nat → Int64} {B : RB4} (w : List Nat) : ∀ L : List Lv, rRow a b B L → (∀ l ∈ L, lOk l) → ∃ tg : Nat → Tr, (∀ k, k < lvCn k8 L → rV a b B (tg k) none (b 123 k) ∧ isW (tg k) = true) ∧ (lvAt (isTag w) L = none ↔ ∀ k, k < lvCn k8 L → tLet (tg k) ≠ w) := by
  intro L
  induction L with
  | nil => intro _ _; exact ⟨fun _ => .nil, fun k hk => absurd hk (Nat.not_lt_zero k), fun _ k hk => absurd hk (Nat.not_lt_zero k), fun _ => rfl⟩
  | cons x L ih =>
    intro hr hl
    obtain ⟨tg, h1, h2⟩ := ih hr.2.2.2 (fun l h => hl l (List.mem_cons_of_mem _ h))
    rcases Classical.em (lK x = 8) with e | e
    · obtain ⟨c1, _⟩ := lvCn_8 (L := L) e
      have hx := hr.2.2.1 e
      have hxw := (hl x List.mem_cons_self).2.2.2.2.2.2.2.2.2.2.2.2.2.1 e
      refine ⟨fun k => if k = lvCn k8 L then lTag x else tg k, fun k hk => ?_, ?_⟩
      · show rV a b B (if k = lvCn k8 L then lTag x else tg k) none (b 123 k) ∧ isW (if k = lvCn k8 L then lTag x else tg k) = true
        rcases Classical.em (k = lvCn k8 L) with d | d
        · rw [if_pos d, d]; exact ⟨hx, hxw⟩
        · rw [if_neg d]; exact h1 k (by omega)
      · rcases Classical.em (tLet (lTag x) = w) with d | d
        · rw [lvAt_yes (by unfold isTag; rw [e, beq_iff_eq.mpr d]; rfl)]
          refine ⟨fun h => (by cases h), fun h => ?_⟩
          have := h (lvCn k8 L) (by omega)
          dsimp only at this
          rw [if_pos rfl] at this
          exact absurd d this
        · rw [lvAt_no (by unfold isTag; rw [beq_eq_false_iff_ne.mpr d]; exact Bool.and_false _)]
          have e0 : (Option.map (· + 1) (lvAt (isTag w) L) = none) ↔ lvAt (isTag w) L = none := by
            cases lvAt (isTag w) L with
            | none => exact ⟨fun _ => rfl, fun _ => rfl⟩
            | some k => exact ⟨fun h => (by cases h), fun h => (by cases h)⟩
          rw [e0, h2]
          constructor
          · intro h k hk
            show tLet (if k = lvCn k8 L then lTag x else tg k) ≠ w
            rcases Classical.em (k = lvCn k8 L) with q | q
            · rw [if_pos q]; exact d
            · rw [if_neg q]; exact h k (by omega)
          · intro h k hk
            have := h k (by omega)
            dsimp only at this
            rw [if_neg (by omega)] at this
            exact this
    · have c1 : lvCn k8 (x :: L) = lvCn k8 L := by rw [lvCn, if_neg (by unfold k8; simp; exact e), Nat.zero_add]
      rw [c1, lvAt_no (by unfold isTag; rw [beq_eq_false_iff_ne.mpr e]; rfl)]
      have e0 : (Option.map (· + 1) (lvAt (isTag w) L) = none) ↔ lvAt (isTag w) L = none := by
        cases lvAt (isTag w) L with
        | none => exact ⟨fun _ => rfl, fun _ => rfl⟩
        | some k => exact ⟨fun h => (by cases h), fun h => (by cases h)⟩
      exact ⟨tg, h1, e0.trans h2⟩
theorem throw_b {n : Nat} {i : Nat → Int32} {j : Nat → Int64} {a : Nat → Nat → Int32} {b : Nat → Nat → Int64} {B : RB4} {tg : Nat → Tr} {t : Tr} {v : Int64} {c8 : Nat} (hn : 100 ≤ n) (h118 : i 118 = nI c8) (hc : c8 ≤ 150) (ht : rV a b B t none v) (htw : isW t = true) (htg : ∀ k, k < c8 → rV a b B (tg k) none (b 123 k) ∧ isW (tg k) = true) : ∀ (m k f : Nat), k + m = c8 → m < f → ((∀ q, k ≤ q → q < c8 → tLet (tg q) ≠ tLet t) ∧ m_Model_throwing_b2 n f i j a b v (nI k) = some (rFail i 11, j, a, b, 3)) ∨ ((∃ q, q < c8 ∧ tLet (tg q) = tLet t) ∧ m_Model_throwing_b2 n f i j a b v (nI k) = some (upd i 102 3, vp_updL j 109 v, a, b, 3)) := by
  obtain ⟨z, rfl, hz⟩ := r_isW_eq ht htw
  have hzb : z < 120000 := by have := hz.1; have := hz.2.1; omega
  intro m
  induction m with
  | zero =>
    intro k f hk hf
    obtain ⟨f, rfl⟩ : ∃ f', f = f' + 1 := ⟨f - 1, by omega⟩
    refine Or.inl ⟨fun q h1 h2 => by omega, ?_⟩
    rw [m_Model_throwing_b2, h118, ile_p (by omega), show (11 : Int32) = nI 11 from rfl, r_fails, om_s]
  | succ m ih =>
    intro k f hk hf
    obtain ⟨f, rfl⟩ : ∃ f', f = f' + 1 := ⟨f - 1, by omega⟩
    obtain ⟨g1, g2⟩ := htg k (by omega)
    obtain ⟨y, ey, hy⟩ := r_isW_eq g1 g2
    have hyb : y < 120000 := by have := hy.1; have := hy.2.1; omega
    rw [m_Model_throwing_b2, h118, ile_n (by omega), ck_n (by omega), cl_n (by omega), ey, r_whatW (by omega), ob0_s, r_whatW (by omega), ob0_s, r_sameWord hn hy hz, ob0_s]
    rcases Classical.em (tLet (tg k) = tLet t) with d | d
    · rw [decide_eq_true d, b1_t, if_neg (show ¬ nI 1 = (0 : Int32) by decide), ob1_s, ob1_s]
      exact Or.inr ⟨⟨k, by omega, d⟩, rfl⟩
    · rw [decide_eq_false d, b1_f, if_pos (show nI 0 = (0 : Int32) from rfl), ob1_s, show nI k + (1 : Int32) = nI (k + 1) from nI_add k 1]
      rcases ih (k + 1) f (by omega) (by omega) with ⟨h1, h2⟩ | ⟨h1, h2⟩
      · refine Or.inl ⟨fun q q1 q2 => ?_, h2⟩
        rcases (by omega : q = k ∨ k + 1 ≤ q) with e | e
        · subst e; exact d
        · exact h1 q e q2
      · exact Or.inr ⟨h1, h2⟩
theorem rWo_j {i : Nat → Int32} {j : Nat → Int64} {a : Nat → Nat → Int32} {b : Nat → Nat → Int64} {j' : Nat → Int64} {B : RB4} {bd : Nat} {G : GS} {N : LN} {F : List Fr} (h : rWo i j a b B bd G N F) (h1 : j' 48 = j 48) (h2 : j' 108 = j 108) (h3 : j' 124 = j 124) (h4 : j' 125 = j 125) : rWo i j' a b B bd G N F := by
  obtain ⟨w1, w4, w5, w8, w9, w11, ⟨w12, w13⟩, w14, w15, w18, w19⟩ := id h
  exact ⟨w1, rTr_up (rUp_refl (rWo_B h)) w4 h3 h4, w5, w8, w9, w11, ⟨rOut_up w12 h1 rfl, w13⟩, w14, w15, h2.trans w18, w19⟩

