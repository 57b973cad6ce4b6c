/-! the line's end, errors, what is given -/
theorem CR_0 {g : Nat → Nat} {i : Nat → Int32} {a : Nat → Nat → Int32} {T : Nat} {G : GS} {N : LN} {F : List Fr} {L : List Lv} {got : Option Tr} {rd : Option Wt} (h : CI g i a T G N F L) (h1 : i 46 = nI 0) (h2 : i 44 = nI 0) (h3 : i 43 = nI (lvVals L)) : CR g i a T (G, N, F, L, 0, got, rd) := ⟨h, fun _ => ⟨fun _ => ⟨h1, h2, h3⟩, fun e => by omega, fun e => by omega, fun e => by omega, fun e => by omega⟩⟩
theorem CR_1 {g : Nat → Nat} {i : Nat → Int32} {a : Nat → Nat → Int32} {T : Nat} {G : GS} {N : LN} {F : List Fr} {L : List Lv} {got : Option Tr} {rd : Option Wt} (h : CI g i a T G N F L) (h1 : i 46 = nI 1) (h2 : i 44 = nI 0) (h3 : i 43 = nI (lvVals L)) (h4 : oV (a 0) T got (i 47)) : CR g i a T (G, N, F, L, 1, got, rd) := ⟨h, fun _ => ⟨fun e => by omega, fun _ => ⟨h1, h2, h3, h4⟩, fun e => by omega, fun e => by omega, fun e => by omega⟩⟩
theorem CR_2 {g : Nat → Nat} {i : Nat → Int32} {a : Nat → Nat → Int32} {T : Nat} {G : GS} {N : LN} {F : List Fr} {L : List Lv} {got : Option Tr} {rd : Option Wt} (h : CI g i a T G N F L) (h1 : i 46 = nI 2) (h2 : i 44 = nI 0) (h3 : i 43 = nI (lvVals L)) (h4 : oV (a 0) T got (i 47)) : CR g i a T (G, N, F, L, 2, got, rd) := ⟨h, fun _ => ⟨fun e => by omega, fun e => by omega, fun _ => ⟨h1, h2, h3, h4⟩, fun e => by omega, fun e => by omega⟩⟩
theorem CR_3 {g : Nat → Nat} {i : Nat → Int32} {a : Nat → Nat → Int32} {T : Nat} {G : GS} {N : LN} {F : List Fr} {L : List Lv} {got : Option Tr} {w : Wt} (h : CI g i a T G N F L) (h2 : i 44 = nI (wK w)) (h3 : i 43 = nI (lvVals L + (wVals w).length)) (h4 : wtR (a 0) T (a 47) (a 48) (a 49) (a 50) (a 51) (a 52) (a 53) (a 54) (lvWaits L) (lvVals L) w) : CR g i a T (G, N, F, L, 3, got, some w) := ⟨h, fun _ => ⟨fun e => by omega, fun e => by omega, fun e => by omega, fun _ => ⟨w, rfl, h2, h3, h4⟩, fun e => by omega⟩⟩
theorem CR_4 {g : Nat → Nat} {i : Nat → Int32} {a : Nat → Nat → Int32} {T : Nat} {G : GS} {N : LN} {F : List Fr} {L : List Lv} {got : Option Tr} {rd : Option Wt} (h : CI g i a T G N F L) (h2 : i 44 = nI 3) (h3 : i 43 = nI (lvVals L)) : CR g i a T (G, N, F, L, 4, got, rd) := ⟨h, fun _ => ⟨fun e => by omega, fun e => by omega, fun e => by omega, fun e => by omega, fun _ => ⟨h2, h3⟩⟩⟩
theorem CR_e {g : Nat → Nat} {i : Nat → Int32} {a : Nat → Nat → Int32} {T : Nat} {G : GS} {N : LN} {F : List Fr} {L : List Lv} {ph : Nat} {got : Option Tr} {rd : Option Wt} (h : CI g i a T G N F L) (hs : nState N ≠ 1) : CR g i a T (G, N, F, L, ph, got, rd) := ⟨h, fun e => absurd e hs⟩
theorem lvOk_drop {F : List Fr} {L : List Lv} {made : Nat} (h : lvOk F L made) : F.drop (lvCalls L) = [] := List.drop_eq_nil_of_le (by rw [h.2.2.2.2.1]; exact Nat.le_refl _)
theorem h_finish {n : Nat} {g : Nat → Nat} {i : Nat → Int32} {a : Nat → Nat → Int32} {T : Nat} {G : GS} {N : LN} {F : List Fr} {L : List Lv} {st e : Nat} (hn : 200 ≤ n) (h : CI g i a T G N F L) (hl : lvOk F L (nMade N)) (hst : st ≠ 1) : ∃ i', m_Machine_finishLine n g i a (nI st) (nI e) = some (i', a, nI 0) ∧ CR g i' a T (aFinish st e G N L) := by
  obtain ⟨i', q1, q2, q3, q4, q5⟩ := h_leave (n := n) hn h hl.1 hl.2.1 (Nat.le_refl L.length)
  rw [Nat.sub_self] at q1
  rw [List.take_length, List.drop_length, lvOk_drop hl] at q3
  refine ⟨upd (upd (upd (upd (upd i' 42 (nI 0)) 43 (nI 0)) 44 (nI 0)) 35 (nI st)) 36 (nI e), ?_, CR_e ?_ hst⟩
  · unfold m_Machine_finishLine m_Waiting_begin
    simp (disch := omega) only [ob_s, ob0_s, ob1_s, i32_lit, ile_p, ile_n, ilt_p, ilt_n, ieq_p, ieq_n, ck_n, cl_n, sub_n, nI_add, sh_w, sh_l, an3_w, an3_l, an1_w, an1_l, hN_1, hN_3w, hN_3l, if_true, if_false, q1]
  · obtain ⟨a1, a2, a3, a4, a5⟩ := q3
    exact ⟨a1, a2, ⟨rfl, rfl, a3.2.2⟩, a4, ⟨a5.1, a5.2.1, rfl, a5.2.2.2⟩⟩
theorem isW_eq {f : Nat → Int32} {T : Nat} {t : Tr} {v : Int32} (h : cV f T t none v) (hw : isW t = true) : t = tW (tLet t) := by
  rcases cV_cases h with ⟨k, rfl, h1, h2, rfl⟩ | ⟨l, p, rfl, rfl, h3⟩ | ⟨ms, p, rfl, rfl, h3, h4⟩
  · rw [isW_tN] at hw; cases hw
  · rw [tLet_tW]
  · rw [isW_tL] at hw; cases hw
theorem isL_eq {f : Nat → Int32} {T : Nat} {t : Tr} {v : Int32} (h : cV f T t none v) (hw : isL t = true) : t = tL (tMem t) := by
  rcases cV_cases h with ⟨k, rfl, h1, h2, rfl⟩ | ⟨l, p, rfl, rfl, h3⟩ | ⟨ms, p, rfl, rfl, h3, h4⟩
  · rw [isL_tN] at hw; cases hw
  · rw [isL_tW] at hw; cases hw
  · rw [tMem_tL]
/-- the place of a level, counted from the newest, as the class counts it -/
def ixR (D : Nat) (o : Option Nat) : Int32 := match o with
  | none => -nI 1
  | some k => nI (D - 1 - k)
theorem ixR_map {D : Nat} {o : Option Nat} : ixR (D + 1) (o.map (· + 1)) = ixR D o := by
  cases o with
  | none => rfl
  | some k => show nI (D + 1 - 1 - (k + 1)) = nI (D - 1 - k); congr 1; omega
theorem lvAt_lt {p : Lv → Bool} : ∀ (L : List Lv) (k : Nat), lvAt p L = some k → k < L.length := by
  intro L
  induction L with
  | nil => intro k h; cases h
  | cons x L ih =>
    intro k h
    rw [lvAt] at h
    split at h
    · cases h; simp
    · cases h9 : lvAt p L with
      | none => rw [h9] at h; cases h
      | some q => rw [h9] at h; cases h; have := ih q h9; simp only [List.length_cons]; omega
theorem lvAt_t {p : Lv → Bool} {x : Lv} {L : List Lv} (h : p x = true) : lvAt p (x :: L) = some 0 := by rw [lvAt, h]; rfl
theorem lvAt_f {p : Lv → Bool} {x : Lv} {L : List Lv} (h : p x = false) : lvAt p (x :: L) = (lvAt p L).map (· + 1) := by rw [lvAt, h]; rfl
theorem m1_lt (m : Nat) (hm : m < 1000) : nI 0 - nI 1 < nI m := by
  rw [Int32.lt_iff_toInt_lt, pk_sub_toInt (by omega) (by omega), nI_toInt (by omega)]
  omega
theorem h_catch_b {n : Nat} {g : Nat → Nat} {i : Nat → Int32} {a : Nat → Nat → Int32} {T : Nat} (ht : T ≤ g 0) (hg : g 0 ≤ 340000) {w : List Nat} {v : Int32} (hn : 200 ≤ n) (hv : cV (a 0) T (tW w) none v) : ∀ (L : List Lv) (F : List Fr) (f : Nat), lvR (a 0) T (a 37) (a 38) (a 39) (a 40) (a 41) (a 42) (a 43) (a 44) (a 45) (a 46) (a 47) (a 48) (a 49) (a 50) (a 51) (a 52) (a 53) (a 54) L F → (∀ l ∈ L, lOk l) → L.length ≤ 150 → L.length < f → m_Line_newestCatch_b7 n g i a f v (nI L.length - nI 1) = some (ixR L.length (lvAt (isTag w) L)) := by
  intro L
  induction L with
  | nil =>
    intro F f h hl hL hf
    obtain ⟨f, rfl⟩ : ∃ f', f = f' + 1 := ⟨f - 1, by omega⟩
    rw [m_Line_newestCatch_b7, i32_lit, if_pos (show nI ([] : List Lv).length - nI 1 < nI 0 from m1_lt 0 (by decide))]
    rfl
  | cons x R ih =>
    intro F f h hl hL hf
    obtain ⟨f, rfl⟩ : ∃ f', f = f' + 1 := ⟨f - 1, by omega⟩
    simp only [List.length_cons] at hL hf ⊢
    rw [lvR] at h
    obtain ⟨l1, l2, l3, l4, l5, l6, l7, l8, l9, l10, l11, l12⟩ := h.1
    have hx := hl x List.mem_cons_self
    have hx1 := hx.1
    have hR : ∃ F', lvR (a 0) T (a 37) (a 38) (a 39) (a 40) (a 41) (a 42) (a 43) (a 44) (a 45) (a 46) (a 47) (a 48) (a 49) (a 50) (a 51) (a 52) (a 53) (a 54) R F' := by
      have := h.2
      split at this
      · obtain ⟨fr, F', _, _, _, e⟩ := this; exact ⟨F', e⟩
      · exact ⟨F, this⟩
    obtain ⟨F', hR⟩ := hR
    have e := ih F' f hR (fun l h => hl l (List.mem_cons_of_mem _ h)) (by omega) (by omega)
    have hneg : nI R.length + -nI 1 = nI R.length - nI 1 := (Int32.sub_eq_add_neg _ _).symm
    rw [m_Line_newestCatch_b7, sub_n (by omega : 1 ≤ R.length + 1), show R.length + 1 - 1 = R.length by omega]
    rcases Classical.em (lK x = 8) with h8 | h8
    · have ew := isW_eq (l8 h8) (hx.2.2.2.2.2.2.2.2.2.2.2.2.2.1 h8)
      have l8' := l8 h8
      rw [ew] at l8'
      have es := h_sameWord (n := n) (i := i) ht hg (by omega) l8' hv
      rcases Classical.em (tLet (lTag x) = w) with hw | hw
      · have et : isTag w x = true := by unfold isTag; simp [h8, hw]
        rw [lvAt_t et]
        simp (disch := omega) only [ob_s, ob0_s, ob1_s, i32_lit, ile_p, ile_n, ilt_p, ilt_n, ieq_p, ieq_n, ck_n, cl_n, sub_n, nI_add, sh_w, sh_l, an3_w, an3_l, an1_w, an1_l, hN_1, hN_3w, hN_3l, if_true, if_false, l1, h8, es, hw, decide_true, b1_t]
        rfl
      · have et : isTag w x = false := by unfold isTag; simp [hw]
        rw [lvAt_f et, ixR_map]
        simp (disch := omega) only [ob_s, ob0_s, ob1_s, i32_lit, ile_p, ile_n, ilt_p, ilt_n, ieq_p, ieq_n, ck_n, cl_n, sub_n, nI_add, sh_w, sh_l, an3_w, an3_l, an1_w, an1_l, hN_1, hN_3w, hN_3l, if_true, if_false, l1, h8, es, hw, decide_false, b1_f, m_Line_newestCatch_b41, hneg]
        exact e
    · have et : isTag w x = false := by unfold isTag; simp [h8]
      rw [lvAt_f et, ixR_map]
      simp (disch := omega) only [ob_s, ob0_s, ob1_s, i32_lit, ile_p, ile_n, ilt_p, ilt_n, ieq_p, ieq_n, ck_n, cl_n, sub_n, nI_add, sh_w, sh_l, an3_w, an3_l, an1_w, an1_l, hN_1, hN_3w, hN_3l, if_true, if_false, l1, m_Line_newestCatch_b41, hneg]
      exact e
theorem h_catch {n : Nat} {g : Nat → Nat} {i : Nat → Int32} {a : Nat → Nat → Int32} {T : Nat} {G : GS} {N : LN} {F : List Fr} {L : List Lv} {w : List Nat} {v : Int32} (hn : 200 ≤ n) (h : CI g i a T G N F L) (hl : lvOk F L (nMade N)) (hv : cV (a 0) T (tW w) none v) : m_Line_newestCatch n g i a v = some (ixR L.length (lvAt (isTag w) L)) := by
  unfold m_Line_newestCatch
  have e := h.2.2.2.2.1
  simp only [ob1_s, i32_lit, e]
  exact h_catch_b h.1.2.2.1 h.1.2.2.2.2.1 hn hv L F n h.2.2.2.2.2.2.2 hl.1 hl.2.1 (by have := hl.2.1; omega)
theorem h_fail {n : Nat} {g : Nat → Nat} {i : Nat → Int32} {a : Nat → Nat → Int32} {T : Nat} {G : GS} {N : LN} {F : List Fr} {L : List Lv} {e : Nat} (hn : 200 ≤ n) (h : CI g i a T G N F L) (hl : lvOk F L (nMade N)) (h46 : i 46 = nI 1) (h44 : i 44 = nI 0) : ∃ i', m_Machine_fail n g i a (nI e) = some (i', a, nI 0) ∧ CR g i' a T (aFail e G N F L) := by
  have ec := h_catch hn h hl (cV_21 h.1.2.2.2.2.2.2.2.2 h.1.2.1.1)
  have ei : isErr = isTag wError := rfl
  unfold m_Machine_fail aFail
  rw [ei]
  cases hk : lvAt (isTag wError) L with
  | none =>
    rw [hk] at ec
    obtain ⟨i', q1, q2⟩ := h_finish (n := n) (st := 3) (e := e) hn h hl (by decide)
    refine ⟨i', ?_, q2⟩
    rw [ec]
    show ob0 (some (-nI 1)) _ = _
    rw [ob0_s, i32_lit, if_neg (by decide), i32_lit, q1, ob_s]
  | some k =>
    rw [hk] at ec
    have hk2 := lvAt_lt L k hk
    have hL := hl.2.1
    obtain ⟨b1, b2, b3, b4, b5⟩ := h
    obtain ⟨i', q1, q2, q3, q4, q5⟩ := h_leave (n := n) (i := upd i 39 (nI e)) (N := nSetCaught N e) (k := k + 1) hn ⟨b1, b2, ⟨b3.1, b3.2.1, b3.2.2.1, b3.2.2.2.1, rfl⟩, b4, b5⟩ hl.1 hl.2.1 (by omega)
    refine ⟨upd i' 47 (-nI 2147483648), ?_, CR_1 q3 ?_ ?_ (q5 (by omega)) rfl⟩
    · rw [ec]
      show ob0 (some (nI (L.length - 1 - k))) _ = _
      rw [show L.length - 1 - k = L.length - (k + 1) by omega]
      simp (disch := omega) only [ob_s, ob0_s, ob1_s, i32_lit, ile_p, ile_n, ilt_p, ilt_n, ieq_p, ieq_n, ck_n, cl_n, sub_n, nI_add, sh_w, sh_l, an3_w, an3_l, an1_w, an1_l, hN_1, hN_3w, hN_3l, if_true, if_false, q1]
    · show i' 46 = nI 1
      rw [q2 46 (by decide) (by decide) (by decide) (by decide) (by decide) (by decide)]
      exact h46
    · show i' 44 = nI 0
      rw [q2 44 (by decide) (by decide) (by decide) (by decide) (by decide) (by decide)]
      exact h44
theorem err_facts {e : Nat} (h1 : 1 ≤ e) (h2 : e ≤ 13) : -nI (2147483648 - e) ≠ -nI 2147483584 ∧ ¬ -nI (2147483648 - e) ≤ -nI 2147483648 ∧ ¬ -nI 2147483584 ≤ -nI (2147483648 - e) ∧ -nI (2147483648 - e) - -nI 2147483648 = nI e := by
  rcases (by omega : e = 1 ∨ e = 2 ∨ e = 3 ∨ e = 4 ∨ e = 5 ∨ e = 6 ∨ e = 7 ∨ e = 8 ∨ e = 9 ∨ e = 10 ∨ e = 11 ∨ e = 12 ∨ e = 13) with rfl | rfl | rfl | rfl | rfl | rfl | rfl | rfl | rfl | rfl | rfl | rfl | rfl <;> decide
def rsOk (r : Rs) : Prop := match r with
  | .error e => 1 ≤ e ∧ e ≤ 13
  | _ => True
theorem h_take {n : Nat} {g : Nat → Nat} {i : Nat → Int32} {a : Nat → Nat → Int32} {T : Nat} {G : GS} {N : LN} {F : List Fr} {L : List Lv} {r : Rs} {x : Int32} (hn : 200 ≤ n) (h : CI g i a T G N F L) (hl : lvOk F L (nMade N)) (h44 : i 44 = nI 0) (h43 : i 43 = nI (lvVals L)) (hx : gV (a 0) T r x) (hr : rsOk r) : ∃ i', m_Machine_take n g i a x = some (i', a, nI 0) ∧ CR g i' a T (aTake G N F L r) := by
  have hT : T ≤ 340000 := Nat.le_trans h.1.2.2.1 h.1.2.2.2.2.1
  unfold m_Machine_take
  simp only [i32_lit, ob1_s]
  match r, hx, hr with
  | .ok none, hx, _ =>
    have hx : x = -nI 2147483648 := hx
    refine ⟨upd (upd i 46 (nI 1)) 47 x, ?_, CR_1 h rfl h44 h43 hx⟩
    rw [hx, if_neg (by decide), if_pos (by decide)]
  | .ok (some t), hx, _ =>
    have hx : cV (a 0) T t none x := hx
    have hne := cV_ne hT hx
    refine ⟨upd (upd i 46 (nI 1)) 47 x, ?_, CR_1 h rfl h44 h43 hx⟩
    rw [if_neg, if_neg, if_pos]
    · rw [Int32.le_iff_toInt_le]
      have : (-nI 2147483584).toInt = -2147483584 := by decide
      omega
    · rw [Int32.le_iff_toInt_le]
      have : (-nI 2147483648).toInt = -2147483648 := by decide
      omega
    · intro e
      rw [e] at hne
      exact absurd hne (by decide)
  | .error e, hx, hr =>
    have hx : x = -nI (2147483648 - e) := hx
    obtain ⟨f1, f2, f3, f4⟩ := err_facts hr.1 hr.2
    obtain ⟨i', q1, q2⟩ := h_fail (n := n) (i := upd (upd i 46 (nI 1)) 47 x) (e := e) hn h hl rfl h44
    refine ⟨i', ?_, q2⟩
    rw [hx] at q1 ⊢
    rw [if_neg f1, if_neg f2, if_neg f3, f4, q1, ob_s]
/-- a call of a level that is a call -/
def lvCall : Nat → List Lv → Option Nat
  | _, [] => none
  | q, l :: L => if lK l = 1 then (if q = 0 then some 0 else (lvCall (q - 1) L).map (· + 1)) else (lvCall q L).map (· + 1)
theorem lvCall_0 : ∀ L : List Lv, lvCall 0 L = lvAt isCall L := by
  intro L
  induction L with
  | nil => rfl
  | cons x L ih =>
    rw [lvCall, lvAt, ih]
    unfold isCall
    rcases Classical.em (lK x = 1) with h | h
    · simp [h]
    · simp [h]
theorem h_call_b {n : Nat} {g : Nat → Nat} {i : Nat → Int32} {a : Nat → Nat → Int32} {T : Nat} {q : Nat} (hq : q < 2147483648) : ∀ (L : List Lv) (F : List Fr) (f s : Nat), lvR (a 0) T (a 37) (a 38) (a 39) (a 40) (a 41) (a 42) (a 43) (a 44) (a 45) (a 46) (a 47) (a 48) (a 49) (a 50) (a 51) (a 52) (a 53) (a 54) L F → (∀ l ∈ L, lOk l) → L.length ≤ 150 → L.length < f → s ≤ q → m_Line_callAt_b9 n g i a f (nI q) (nI s) (nI L.length - nI 1) = some (ixR L.length (lvCall (q - s) L)) := by
  intro L
  induction L with
  | nil =>
    intro F f s h hl hL hf hs
    obtain ⟨f, rfl⟩ : ∃ f', f = f' + 1 := ⟨f - 1, by omega⟩
    rw [m_Line_callAt_b9, i32_lit, if_pos (show nI ([] : List Lv).length - nI 1 < nI 0 from m1_lt 0 (by decide))]
    rfl
  | cons x R ih =>
    intro F f s h hl hL hf hs
    obtain ⟨f, rfl⟩ : ∃ f', f = f' + 1 := ⟨f - 1, by omega⟩
    simp only [List.length_cons] at hL hf ⊢
    rw [lvR] at h
    obtain ⟨l1, l2, l3, l4, l5, l6, l7, l8, l9, l10, l11, l12⟩ := h.1
    have hx := hl x List.mem_cons_self
    have hx1 := hx.1
    have hR : ∃ F', lvR (a 0) T (a 37) (a 38) (a 39) (a 40) (a 41) (a 42) (a 43) (a 44) (a 45) (a 46) (a 47) (a 48) (a 49) (a 50) (a 51) (a 52) (a 53) (a 54) R F' := by
      have := h.2
      split at this
      · obtain ⟨fr, F', _, _, _, e⟩ := this; exact ⟨F', e⟩
      · exact ⟨F, this⟩
    obtain ⟨F', hR⟩ := hR
    have hneg : nI R.length + -nI 1 = nI R.length - nI 1 := (Int32.sub_eq_add_neg _ _).symm
    rw [m_Line_callAt_b9, sub_n (by omega : 1 ≤ R.length + 1), show R.length + 1 - 1 = R.length by omega, lvCall]
    rcases Classical.em (lK x = 1) with h1 | h1
    · rw [if_pos h1]
      rcases Nat.eq_or_lt_of_le hs with he | he
      · rw [if_pos (show q - s = 0 by omega)]
        simp (disch := omega) only [ob_s, ob0_s, ob1_s, i32_lit, ile_p, ile_n, ilt_p, ilt_n, ieq_p, ieq_n, ck_n, cl_n, sub_n, nI_add, sh_w, sh_l, an3_w, an3_l, an1_w, an1_l, hN_1, hN_3w, hN_3l, if_true, if_false, l1, h1]
        rfl
      · rw [if_neg (show ¬ q - s = 0 by omega), ixR_map]
        have e := ih F' f (s + 1) hR (fun l h => hl l (List.mem_cons_of_mem _ h)) (by omega) (by omega) (by omega)
        rw [show q - (s + 1) = q - s - 1 by omega] at e
        simp (disch := omega) only [ob_s, ob0_s, ob1_s, i32_lit, ile_p, ile_n, ilt_p, ilt_n, ieq_p, ieq_n, ck_n, cl_n, sub_n, nI_add, sh_w, sh_l, an3_w, an3_l, an1_w, an1_l, hN_1, hN_3w, hN_3l, if_true, if_false, l1, h1, m_Line_callAt_b33, hneg]
        exact e
    · rw [if_neg h1, ixR_map]
      have e := ih F' f s hR (fun l h => hl l (List.mem_cons_of_mem _ h)) (by omega) (by omega) (by omega)
      simp (disch := omega) only [ob_s, ob0_s, ob1_s, i32_lit, ile_p, ile_n, ilt_p, ilt_n, ieq_p, ieq_n, ck_n, cl_n, sub_n, nI_add, sh_w, sh_l, an3_w, an3_l, an1_w, an1_l, hN_1, hN_3w, hN_3l, if_true, if_false, l1, m_Line_callAt_b33, hneg]
      exact e
theorem h_call0 {n : Nat} {g : Nat → Nat} {i : Nat → Int32} {a : Nat → Nat → Int32} {T : Nat} {G : GS} {N : LN} {F : List Fr} {L : List Lv} (hn : 200 ≤ n) (h : CI g i a T G N F L) (hl : lvOk F L (nMade N)) : m_Line_callAt n g i a (nI 0) = some (ixR L.length (lvAt isCall L)) := by
  unfold m_Line_callAt
  have e := h.2.2.2.2.1
  simp only [ob1_s, i32_lit, e]
  rw [← lvCall_0]
  exact h_call_b (by decide) L F n 0 h.2.2.2.2.2.2.2 hl.1 hl.2.1 (by have := hl.2.1; omega) (Nat.le_refl _)
/-- the newest level of some kinds -/
theorem h_newest_b {n : Nat} {g : Nat → Nat} {i : Nat → Int32} {a : Nat → Nat → Int32} {T : Nat} {p q : Nat} (hp : p ≤ 10) (hq : q ≤ 10) : ∀ (L : List Lv) (F : List Fr) (f : Nat), lvR (a 0) T (a 37) (a 38) (a 39) (a 40) (a 41) (a 42) (a 43) (a 44) (a 45) (a 46) (a 47) (a 48) (a 49) (a 50) (a 51) (a 52) (a 53) (a 54) L F → (∀ l ∈ L, lOk l) → L.length ≤ 150 → L.length < f → (lvNewest p q L = none ∧ m_Line_newest_b7 n g i a f (nI p) (nI q) (nI L.length - nI 1) = some (-nI 1)) ∨ (∃ l d, lvNewest p q L = some l ∧ l ∈ L ∧ (lK l = p ∨ lK l = q) ∧ d < L.length ∧ m_Line_newest_b7 n g i a f (nI p) (nI q) (nI L.length - nI 1) = some (nI d) ∧ a 40 d = nI (lTurns l) ∧ (lK l = 4 ∨ lK l = 5 ∨ lK l = 9 ∨ lK l = 10 → cV (a 0) T (lOth l) none (a 42 d))) := by
  intro L
  induction L with
  | nil =>
    intro F f h hl hL hf
    obtain ⟨f, rfl⟩ : ∃ f', f = f' + 1 := ⟨f - 1, by omega⟩
    left
    refine ⟨rfl, ?_⟩
    rw [m_Line_newest_b7, i32_lit, if_pos (show nI ([] : List Lv).length - nI 1 < nI 0 from m1_lt 0 (by decide))]
    rfl
  | cons x R ih =>
    intro F f h hl hL hf
    obtain ⟨f, rfl⟩ : ∃ f', f = f' + 1 := ⟨f - 1, by omega⟩
    simp only [List.length_cons] at hL hf ⊢
    rw [lvR] at h
    obtain ⟨l1, l2, l3, l4, l5, l6, l7, l8, l9, l10, l11, l12⟩ := h.1
    have hx := hl x List.mem_cons_self
    have hx1 := hx.1
    have hR : ∃ F', lvR (a 0) T (a 37) (a 38) (a 39) (a 40) (a 41) (a 42) (a 43) (a 44) (a 45) (a 46) (a 47) (a 48) (a 49) (a 50) (a 51) (a 52) (a 53) (a 54) R F' := by
      have := h.2
      split at this
      · obtain ⟨fr, F', _, _, _, e⟩ := this; exact ⟨F', e⟩
      · exact ⟨F, this⟩
    obtain ⟨F', hR⟩ := hR
    have hneg : nI R.length + -nI 1 = nI R.length - nI 1 := (Int32.sub_eq_add_neg _ _).symm
    rw [m_Line_newest_b7, sub_n (by omega : 1 ≤ R.length + 1), show R.length + 1 - 1 = R.length by omega, lvNewest]
    rcases Classical.em (lK x = 1) with h1 | h1
    · left
      rw [if_pos h1]
      refine ⟨rfl, ?_⟩
      simp (disch := omega) only [ob_s, ob0_s, ob1_s, i32_lit, ile_p, ile_n, ilt_p, ilt_n, ieq_p, ieq_n, ck_n, cl_n, sub_n, nI_add, sh_w, sh_l, an3_w, an3_l, an1_w, an1_l, hN_1, hN_3w, hN_3l, if_true, if_false, l1, h1]
    · rw [if_neg h1]
      rcases Classical.em (lK x = p ∨ lK x = q) with h2 | h2
      · right
        rw [if_pos h2]
        refine ⟨x, R.length, rfl, List.mem_cons_self, h2, by omega, ?_, l4, l6⟩
        rcases Classical.em (lK x = p) with h3 | h3
        · simp (disch := omega) only [ob_s, ob0_s, ob1_s, i32_lit, ile_p, ile_n, ilt_p, ilt_n, ieq_p, ieq_n, ck_n, cl_n, sub_n, nI_add, sh_w, sh_l, an3_w, an3_l, an1_w, an1_l, hN_1, hN_3w, hN_3l, if_true, if_false, l1]
        · rcases h2 with h2 | h2
          · exact absurd h2 h3
          · simp (disch := omega) only [ob_s, ob0_s, ob1_s, i32_lit, ile_p, ile_n, ilt_p, ilt_n, ieq_p, ieq_n, ck_n, cl_n, sub_n, nI_add, sh_w, sh_l, an3_w, an3_l, an1_w, an1_l, hN_1, hN_3w, hN_3l, if_true, if_false, l1]
      · rw [if_neg h2]
        have h3 : lK x ≠ p := fun e => h2 (Or.inl e)
        have h4 : lK x ≠ q := fun e => h2 (Or.inr e)
        have e5 : ∀ z, (ck (nI R.length) 150 (if a 37 (nI R.length).toNatClampNeg = 1 then some (-1) else ck (nI R.length) 150 (if a 37 (nI R.length).toNatClampNeg = nI p then some (nI R.length) else ck (nI R.length) 150 (if a 37 (nI R.length).toNatClampNeg = nI q then some (nI R.length) else ob1 (nI R.length + -1) fun x_8 => m_Line_newest_b7 n g i a f (nI p) (nI q) x_8)))) = some z ↔ m_Line_newest_b7 n g i a f (nI p) (nI q) (nI R.length - nI 1) = some z := by
          intro z
          simp (disch := omega) only [ob_s, ob0_s, ob1_s, i32_lit, ile_p, ile_n, ilt_p, ilt_n, ieq_p, ieq_n, ck_n, cl_n, sub_n, nI_add, sh_w, sh_l, an3_w, an3_l, an1_w, an1_l, hN_1, hN_3w, hN_3l, if_true, if_false, l1, hneg]
        rcases ih F' f hR (fun l h => hl l (List.mem_cons_of_mem _ h)) (by omega) (by omega) with ⟨c1, c2⟩ | ⟨l, d, c1, c2, c3, c4, c5, c6⟩
        · left
          refine ⟨c1, ?_⟩
          rw [i32_lit, ilt_n (by omega)]
          exact (e5 _).mpr c2
        · right
          refine ⟨l, d, c1, List.mem_cons_of_mem _ c2, c3, by omega, ?_, c6⟩
          rw [i32_lit, ilt_n (by omega)]
          exact (e5 _).mpr c5
theorem h_newest {n : Nat} {g : Nat → Nat} {i : Nat → Int32} {a : Nat → Nat → Int32} {T : Nat} {G : GS} {N : LN} {F : List Fr} {L : List Lv} {p q : Nat} (hp : p ≤ 10) (hq : q ≤ 10) (hn : 200 ≤ n) (h : CI g i a T G N F L) (hl : lvOk F L (nMade N)) : (lvNewest p q L = none ∧ m_Line_newest n g i a (nI p) (nI q) = some (-nI 1)) ∨ (∃ l d, lvNewest p q L = some l ∧ l ∈ L ∧ (lK l = p ∨ lK l = q) ∧ d < L.length ∧ m_Line_newest n g i a (nI p) (nI q) = some (nI d) ∧ a 40 d = nI (lTurns l) ∧ (lK l = 4 ∨ lK l = 5 ∨ lK l = 9 ∨ lK l = 10 → cV (a 0) T (lOth l) none (a 42 d))) := by
  unfold m_Line_newest
  have e := h.2.2.2.2.1
  simp only [ob1_s, i32_lit, e]
  exact h_newest_b hp hq L F n h.2.2.2.2.2.2.2 hl.1 hl.2.1 (by have := hl.2.1; omega)

