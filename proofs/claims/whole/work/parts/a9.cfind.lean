/-! names and procedures, found -/
def oV (f : Nat → Int32) (T : Nat) (o : Option Tr) (x : Int32) : Prop := match o with
  | none => x = -nI 2147483648
  | some t => cV f T t none x
theorem oV_up {f f' : Nat → Int32} {T T' : Nat} {o : Option Tr} {x : Int32} (h : oV f T o x) (hT : T ≤ T') (hf : ∀ x, x < T → f' x = f x) : oV f' T' o x := by
  cases o with
  | none => exact h
  | some t => exact cV_up h hT hf
def rGlob (f : Nat → Int32) (T : Nat) (cnt : Int32) (nm vl : Nat → Int32) (G : List (Nm × Tr)) : Prop :=
  cnt = nI G.length ∧ G.length ≤ 64 ∧ ∀ k (h : k < G.length), cV f T (tW (G[k]'h).1) none (nm k) ∧ cV f T (G[k]'h).2 none (vl k)
def rProc (f : Nat → Int32) (T : Nat) (cnt : Int32) (nm ins bd : Nat → Int32) (P : List Proc) : Prop :=
  cnt = nI P.length ∧ P.length ≤ 40 ∧ ∀ k (h : k < P.length), cV f T (tW (P[k]'h).1) none (nm k) ∧ cV f T (tL ((P[k]'h).2.1.map tW)) none (ins k) ∧ cV f T (P[k]'h).2.2 none (bd k)
def frLocs : List Fr → Nat
  | [] => 0
  | f :: F => f.2.length + frLocs F
def fNm : List Fr → Nat → Nm
  | [], _ => []
  | f :: F, k => if frLocs F ≤ k then (f.2.getD (k - frLocs F) ([], none)).1 else fNm F k
def fVl : List Fr → Nat → Option Tr
  | [], _ => none
  | f :: F, k => if frLocs F ≤ k then (f.2.getD (k - frLocs F) ([], none)).2 else fVl F k
def rLoc (f : Nat → Int32) (T : Nat) (cnt : Int32) (nm vl : Nat → Int32) (F : List Fr) : Prop :=
  cnt = nI (frLocs F) ∧ frLocs F ≤ 1800 ∧ ∀ k, k < frLocs F → cV f T (tW (fNm F k)) none (nm k) ∧ oV f T (fVl F k) (vl k)
/-- no call has a name twice -/
def frNd (F : List Fr) : Prop := ∀ f ∈ F, (f.2.map (·.1)).Nodup
theorem ci_sub {a b : Nat} (hb : 1 ≤ b) : nI a - nI 1 = nI (a - 1) ∨ a = 0 := by
  rcases Nat.eq_zero_or_pos a with h | h
  · exact Or.inr h
  · exact Or.inl (pk_sub h)
theorem h_findLocal_b {n : Nat} {g : Nat → Nat} {i : Nat → Int32} {a : Nat → Nat → Int32} {top : Nat} (ht : top ≤ g 0) (hg : g 0 ≤ 340000) {nmL : Nat → Nm} {w : Nm} {v : Int32} {tot lo : Nat} (hn : 100 ≤ n) (htot : tot ≤ 1800) (hlo : lo ≤ 1800) (hr : ∀ k, k < tot → cV (a 0) top (tW (nmL k)) none (a 12 k)) (hw : cV (a 0) top (tW w) none v) : ∀ (h f : Nat), h ≤ tot → h < f → (∀ j, h ≤ j → j < tot → nmL j ≠ w) → ∃ r, m_Names_findLocal_b7 n g i a f v (nI lo) (nI h - nI 1) = some r ∧ ((∃ k, r = nI k ∧ lo ≤ k ∧ k < tot ∧ nmL k = w ∧ ∀ j, k < j → j < tot → nmL j ≠ w) ∨ (r = -nI 1 ∧ ∀ j, lo ≤ j → j < tot → nmL j ≠ w)) := by
  intro h
  induction h with
  | zero =>
    intro f h1 h2 h3
    obtain ⟨f, rfl⟩ : ∃ f', f = f' + 1 := ⟨f - 1, by omega⟩
    refine ⟨-nI 1, ?_, Or.inr ⟨rfl, fun j _ hj => h3 j (by omega) hj⟩⟩
    rw [m_Names_findLocal_b7, if_pos]
    · rfl
    · rw [Int32.lt_iff_toInt_lt, pk_sub_toInt (by omega) (by omega), nI_toInt (by omega)]
      omega
  | succ h ih =>
    intro f h1 h2 h3
    obtain ⟨f, rfl⟩ : ∃ f', f = f' + 1 := ⟨f - 1, by omega⟩
    rw [m_Names_findLocal_b7, sub_n (by omega), show h + 1 - 1 = h by omega]
    rcases Nat.lt_or_ge h lo with hl | hl
    · refine ⟨-nI 1, ?_, Or.inr ⟨rfl, fun j hj hj2 => h3 j (by omega) hj2⟩⟩
      simp (disch := omega) only [ob_s, ob0_s, ob1_s, i32_lit, ile_p, ile_n, ilt_p, ilt_n, ieq_p, ieq_n, ck_n, cl_n, sub_n, nI_add, sh_w, sh_l, an3_w, an3_l, an1_w, an1_l, hN_1, hN_3w, hN_3l, if_true, if_false]
    · have es := h_sameWord (n := n) (i := i) ht hg hn (hr h (by omega)) hw
      rcases Classical.em (nmL h = w) with e | e
      · refine ⟨nI h, ?_, Or.inl ⟨h, rfl, hl, by omega, e, fun j hj hj2 => h3 j (by omega) hj2⟩⟩
        simp (disch := omega) only [ob_s, ob0_s, ob1_s, i32_lit, ile_p, ile_n, ilt_p, ilt_n, ieq_p, ieq_n, ck_n, cl_n, sub_n, nI_add, sh_w, sh_l, an3_w, an3_l, an1_w, an1_l, hN_1, hN_3w, hN_3l, if_true, if_false, es, e, decide_true, b1_t]
      · obtain ⟨r, e1, e2⟩ := ih f (by omega) (by omega) (fun j hj hj2 => by
          rcases Nat.eq_or_lt_of_le hj with h9 | h9
          · subst h9; exact e
          · exact h3 j (by omega) hj2)
        refine ⟨r, ?_, e2⟩
        simp (disch := omega) only [ob_s, ob0_s, ob1_s, i32_lit, ile_p, ile_n, ilt_p, ilt_n, ieq_p, ieq_n, ck_n, cl_n, sub_n, nI_add, sh_w, sh_l, an3_w, an3_l, an1_w, an1_l, hN_1, hN_3w, hN_3l, if_true, if_false, es, e, decide_false, b1_f]
        rw [← Int32.sub_eq_add_neg]
        exact e1
theorem h_findLocal {n : Nat} {g : Nat → Nat} {i : Nat → Int32} {a : Nat → Nat → Int32} {top : Nat} (ht : top ≤ g 0) (hg : g 0 ≤ 340000) {nmL : Nat → Nm} {w : Nm} {v : Int32} {tot lo : Nat} (hn : 2000 ≤ n) (hi : i 13 = nI tot) (htot : tot ≤ 1800) (hlo : lo ≤ 1800) (hr : ∀ k, k < tot → cV (a 0) top (tW (nmL k)) none (a 12 k)) (hw : cV (a 0) top (tW w) none v) : ∃ r, m_Names_findLocal n g i a v (nI lo) = some r ∧ ((∃ k, r = nI k ∧ lo ≤ k ∧ k < tot ∧ nmL k = w ∧ ∀ j, k < j → j < tot → nmL j ≠ w) ∨ (r = -nI 1 ∧ ∀ j, lo ≤ j → j < tot → nmL j ≠ w)) := by
  obtain ⟨r, e1, e2⟩ := h_findLocal_b (n := n) (i := i) (lo := lo) ht hg (by omega) htot hlo hr hw tot n (Nat.le_refl _) (by omega) (fun j h1 h2 => by omega)
  refine ⟨r, ?_, e2⟩
  unfold m_Names_findLocal
  simp only [hi, ob1_s, i32_lit]
  exact e1


theorem h_Names_findGlobal_b {n : Nat} {g : Nat → Nat} {i : Nat → Int32} {a : Nat → Nat → Int32} {top : Nat} (ht : top ≤ g 0) (hg : g 0 ≤ 340000) {nms : List Nm} {w : Nm} {v : Int32} (hn : 100 ≤ n) (hi : i 12 = nI nms.length) (hl : nms.length ≤ 64) (hr : ∀ k (h : k < nms.length), cV (a 0) top (tW (nms[k]'h)) none (a 10 k)) (hw : cV (a 0) top (tW w) none v) : ∀ (m k f : Nat), nms.length = k + m → m < f → (∀ j (h : j < nms.length), j < k → nms[j]'h ≠ w) → ∃ r, m_Names_findGlobal_b2 n g i a f v (nI k) = some r ∧ ((∃ q, ∃ h : q < nms.length, r = nI q ∧ nms[q]'h = w ∧ ∀ j (h : j < nms.length), j < q → nms[j]'h ≠ w) ∨ (r = -nI 1 ∧ ∀ j (h : j < nms.length), nms[j]'h ≠ w)) := by
  intro m
  induction m with
  | zero =>
    intro k f e hf hj
    obtain ⟨f, rfl⟩ : ∃ f', f = f' + 1 := ⟨f - 1, by omega⟩
    refine ⟨-nI 1, ?_, Or.inr ⟨rfl, fun j h => hj j h (by omega)⟩⟩
    rw [m_Names_findGlobal_b2]
    simp (disch := omega) only [ob_s, ob0_s, ob1_s, i32_lit, ile_p, ile_n, ilt_p, ilt_n, ieq_p, ieq_n, ck_n, cl_n, sub_n, nI_add, sh_w, sh_l, an3_w, an3_l, an1_w, an1_l, hN_1, hN_3w, hN_3l, if_true, if_false, hi]
  | succ m ih =>
    intro k f e hf hj
    obtain ⟨f, rfl⟩ : ∃ f', f = f' + 1 := ⟨f - 1, by omega⟩
    have hk : k < nms.length := by omega
    have es := h_sameWord (n := n) (i := i) ht hg hn (hr k hk) hw
    rw [m_Names_findGlobal_b2]
    rcases Classical.em (nms[k] = w) with e9 | e9
    · refine ⟨nI k, ?_, Or.inl ⟨k, hk, rfl, e9, hj⟩⟩
      simp (disch := omega) only [ob_s, ob0_s, ob1_s, i32_lit, ile_p, ile_n, ilt_p, ilt_n, ieq_p, ieq_n, ck_n, cl_n, sub_n, nI_add, sh_w, sh_l, an3_w, an3_l, an1_w, an1_l, hN_1, hN_3w, hN_3l, if_true, if_false, hi, es, e9, decide_true, b1_t]
    · obtain ⟨r, e1, e2⟩ := ih (k + 1) f (by omega) (by omega) (fun j h h9 => by
        rcases Nat.eq_or_lt_of_le (Nat.lt_succ_iff.mp h9) with h8 | h8
        · subst h8; exact e9
        · exact hj j h h8)
      refine ⟨r, ?_, e2⟩
      simp (disch := omega) only [ob_s, ob0_s, ob1_s, i32_lit, ile_p, ile_n, ilt_p, ilt_n, ieq_p, ieq_n, ck_n, cl_n, sub_n, nI_add, sh_w, sh_l, an3_w, an3_l, an1_w, an1_l, hN_1, hN_3w, hN_3l, if_true, if_false, hi, es, e9, decide_false, b1_f]
      exact e1
theorem h_Names_findGlobal {n : Nat} {g : Nat → Nat} {i : Nat → Int32} {a : Nat → Nat → Int32} {top : Nat} (ht : top ≤ g 0) (hg : g 0 ≤ 340000) {nms : List Nm} {w : Nm} {v : Int32} (hn : 100 ≤ n) (hi : i 12 = nI nms.length) (hl : nms.length ≤ 64) (hr : ∀ k (h : k < nms.length), cV (a 0) top (tW (nms[k]'h)) none (a 10 k)) (hw : cV (a 0) top (tW w) none v) : ∃ r, m_Names_findGlobal n g i a v = some r ∧ ((∃ q, ∃ h : q < nms.length, r = nI q ∧ nms[q]'h = w ∧ ∀ j (h : j < nms.length), j < q → nms[j]'h ≠ w) ∨ (r = -nI 1 ∧ ∀ j (h : j < nms.length), nms[j]'h ≠ w)) := by
  unfold m_Names_findGlobal
  rw [i32_lit]
  exact h_Names_findGlobal_b ht hg hn hi hl hr hw nms.length 0 n (by omega) (by omega) (fun j _ h => absurd h (Nat.not_lt_zero j))


theorem h_Procedures_find_b {n : Nat} {g : Nat → Nat} {i : Nat → Int32} {a : Nat → Nat → Int32} {top : Nat} (ht : top ≤ g 0) (hg : g 0 ≤ 340000) {nms : List Nm} {w : Nm} {v : Int32} (hn : 100 ≤ n) (hi : i 15 = nI nms.length) (hl : nms.length ≤ 40) (hr : ∀ k (h : k < nms.length), cV (a 0) top (tW (nms[k]'h)) none (a 15 k)) (hw : cV (a 0) top (tW w) none v) : ∀ (m k f : Nat), nms.length = k + m → m < f → (∀ j (h : j < nms.length), j < k → nms[j]'h ≠ w) → ∃ r, m_Procedures_find_b2 n g i a f v (nI k) = some r ∧ ((∃ q, ∃ h : q < nms.length, r = nI q ∧ nms[q]'h = w ∧ ∀ j (h : j < nms.length), j < q → nms[j]'h ≠ w) ∨ (r = -nI 1 ∧ ∀ j (h : j < nms.length), nms[j]'h ≠ w)) := by
  intro m
  induction m with
  | zero =>
    intro k f e hf hj
    obtain ⟨f, rfl⟩ : ∃ f', f = f' + 1 := ⟨f - 1, by omega⟩
    refine ⟨-nI 1, ?_, Or.inr ⟨rfl, fun j h => hj j h (by omega)⟩⟩
    rw [m_Procedures_find_b2]
    simp (disch := omega) only [ob_s, ob0_s, ob1_s, i32_lit, ile_p, ile_n, ilt_p, ilt_n, ieq_p, ieq_n, ck_n, cl_n, sub_n, nI_add, sh_w, sh_l, an3_w, an3_l, an1_w, an1_l, hN_1, hN_3w, hN_3l, if_true, if_false, hi]
  | succ m ih =>
    intro k f e hf hj
    obtain ⟨f, rfl⟩ : ∃ f', f = f' + 1 := ⟨f - 1, by omega⟩
    have hk : k < nms.length := by omega
    have es := h_sameWord (n := n) (i := i) ht hg hn (hr k hk) hw
    rw [m_Procedures_find_b2]
    rcases Classical.em (nms[k] = w) with e9 | e9
    · refine ⟨nI k, ?_, Or.inl ⟨k, hk, rfl, e9, hj⟩⟩
      simp (disch := omega) only [ob_s, ob0_s, ob1_s, i32_lit, ile_p, ile_n, ilt_p, ilt_n, ieq_p, ieq_n, ck_n, cl_n, sub_n, nI_add, sh_w, sh_l, an3_w, an3_l, an1_w, an1_l, hN_1, hN_3w, hN_3l, if_true, if_false, hi, es, e9, decide_true, b1_t]
    · obtain ⟨r, e1, e2⟩ := ih (k + 1) f (by omega) (by omega) (fun j h h9 => by
        rcases Nat.eq_or_lt_of_le (Nat.lt_succ_iff.mp h9) with h8 | h8
        · subst h8; exact e9
        · exact hj j h h8)
      refine ⟨r, ?_, e2⟩
      simp (disch := omega) only [ob_s, ob0_s, ob1_s, i32_lit, ile_p, ile_n, ilt_p, ilt_n, ieq_p, ieq_n, ck_n, cl_n, sub_n, nI_add, sh_w, sh_l, an3_w, an3_l, an1_w, an1_l, hN_1, hN_3w, hN_3l, if_true, if_false, hi, es, e9, decide_false, b1_f]
      exact e1
theorem h_Procedures_find {n : Nat} {g : Nat → Nat} {i : Nat → Int32} {a : Nat → Nat → Int32} {top : Nat} (ht : top ≤ g 0) (hg : g 0 ≤ 340000) {nms : List Nm} {w : Nm} {v : Int32} (hn : 100 ≤ n) (hi : i 15 = nI nms.length) (hl : nms.length ≤ 40) (hr : ∀ k (h : k < nms.length), cV (a 0) top (tW (nms[k]'h)) none (a 15 k)) (hw : cV (a 0) top (tW w) none v) : ∃ r, m_Procedures_find n g i a v = some r ∧ ((∃ q, ∃ h : q < nms.length, r = nI q ∧ nms[q]'h = w ∧ ∀ j (h : j < nms.length), j < q → nms[j]'h ≠ w) ∨ (r = -nI 1 ∧ ∀ j (h : j < nms.length), nms[j]'h ≠ w)) := by
  unfold m_Procedures_find
  rw [i32_lit]
  exact h_Procedures_find_b ht hg hn hi hl hr hw nms.length 0 n (by omega) (by omega) (fun j _ h => absurd h (Nat.not_lt_zero j))


theorem pFind_some {w : Nm} : ∀ (P : List Proc) (k : Nat), (∃ h : k < P.length, (P[k]'h).1 = w ∧ ∀ j (h : j < P.length), j < k → (P[j]'h).1 ≠ w) → pFind P w = some k := by
  intro P
  induction P with
  | nil => rintro k ⟨h, _⟩; exact absurd h (Nat.not_lt_zero k)
  | cons p P ih =>
    rintro k ⟨h, e, hj⟩
    rw [pFind]
    cases k with
    | zero => rw [if_pos (show p.1 = w from e)]
    | succ k =>
      rw [if_neg (show ¬ p.1 = w from hj 0 (by simp) (by omega)), ih k ⟨by simp at h; omega, e, fun j h9 h8 => hj (j + 1) (by simp; omega) (by omega)⟩]
      rfl
theorem pFind_none {w : Nm} : ∀ (P : List Proc), (∀ j (h : j < P.length), (P[j]'h).1 ≠ w) → pFind P w = none := by
  intro P
  induction P with
  | nil => intro _; rfl
  | cons p P ih =>
    intro hj
    rw [pFind, if_neg (show ¬ p.1 = w from hj 0 (by simp)), ih (fun j h => hj (j + 1) (by simp; omega))]
    rfl
theorem gGet_some {w : Nm} : ∀ (P : List (Nm × Tr)) (k : Nat) (v : Tr) (h : k < P.length), (P[k]'h).1 = w → (∀ j (h : j < P.length), j < k → (P[j]'h).1 ≠ w) → gGet P w = some (P[k]'h).2 ∧ gSet P w v = P.set k (w, v) := by
  intro P
  induction P with
  | nil => intro k v h; exact absurd h (Nat.not_lt_zero k)
  | cons p P ih =>
    intro k v h e hj
    rw [gGet, gSet]
    cases k with
    | zero => rw [if_pos (show p.1 = w from e), if_pos (show p.1 = w from e)]; exact ⟨rfl, rfl⟩
    | succ k =>
      have := ih k v (by simp at h; omega) e (fun j h9 h8 => hj (j + 1) (by simp; omega) (by omega))
      rw [if_neg (show ¬ p.1 = w from hj 0 (by simp) (by omega)), if_neg (show ¬ p.1 = w from hj 0 (by simp) (by omega)), this.1, this.2]
      exact ⟨rfl, rfl⟩
theorem gGet_none {w : Nm} : ∀ (P : List (Nm × Tr)), (∀ j (h : j < P.length), (P[j]'h).1 ≠ w) → gGet P w = none := by
  intro P
  induction P with
  | nil => intro _; rfl
  | cons p P ih =>
    intro hj
    rw [gGet, if_neg (show ¬ p.1 = w from hj 0 (by simp)), ih (fun j h => hj (j + 1) (by simp; omega))]
theorem lGet_some {w : Nm} : ∀ (l : List Loc) (k : Nat) (h : k < l.length) (v : Tr), (l.map (·.1)).Nodup → (l[k]'h).1 = w → lGet l w = some (l[k]'h).2 ∧ lSet l w v = l.set k (w, some v) := by
  intro l
  induction l with
  | nil => intro k h; exact absurd h (Nat.not_lt_zero k)
  | cons p l ih =>
    intro k h v nd e
    rw [lGet, lSet]
    rw [List.map_cons, List.nodup_cons] at nd
    cases k with
    | zero => rw [if_pos (show p.1 = w from e), if_pos (show p.1 = w from e)]; exact ⟨rfl, rfl⟩
    | succ k =>
      have h9 : k < l.length := by simp at h; omega
      have ne : p.1 ≠ w := by
        intro e9
        apply nd.1
        rw [e9, ← e]
        exact List.mem_map_of_mem (List.getElem_mem h9)
      have := ih k h9 v nd.2 e
      rw [if_neg ne, if_neg ne, this.1, this.2]
      exact ⟨rfl, rfl⟩
theorem lGet_none {w : Nm} : ∀ (l : List Loc), (∀ j (h : j < l.length), (l[j]'h).1 ≠ w) → lGet l w = none := by
  intro l
  induction l with
  | nil => intro _; rfl
  | cons p P ih =>
    intro hj
    rw [lGet, if_neg (show ¬ p.1 = w from hj 0 (by simp)), ih (fun j h => hj (j + 1) (by simp; omega))]
theorem fGet_last {w : Nm} (v : Tr) : ∀ (F : List Fr) (k : Nat), frNd F → k < frLocs F → fNm F k = w → (∀ j, k < j → j < frLocs F → fNm F j ≠ w) → fGet F w = some (fVl F k) ∧ frLocs (fSet F w v) = frLocs F ∧ (∀ j, fNm (fSet F w v) j = fNm F j) ∧ (∀ j, fVl (fSet F w v) j = if j = k then some v else fVl F j) ∧ frNd (fSet F w v) ∧ (fSet F w v).length = F.length ∧ (fSet F w v).map (fun f => (f.1, f.2.length)) = F.map (fun f => (f.1, f.2.length)) := by
  intro F
  induction F with
  | nil => intro k _ h; exact absurd h (Nat.not_lt_zero k)
  | cons f F ih =>
    intro k nd hk hw hj
    rw [frLocs] at hk hj
    rcases Nat.lt_or_ge k (frLocs F) with hlt | hge
    · have hn : ∀ j (h : j < f.2.length), (f.2[j]'h).1 ≠ w := by
        intro j h
        have := hj (frLocs F + j) (by omega) (by omega)
        rw [fNm, if_pos (by omega), show frLocs F + j - frLocs F = j by omega, getD_in h] at this
        exact this
      have e0 := lGet_none f.2 hn
      rw [fNm, if_neg (by omega)] at hw
      obtain ⟨a1, a2, a3, a4, a5, a6, a7⟩ := ih k (fun f h => nd f (List.mem_cons_of_mem _ h)) hlt hw (fun j h1 h2 => by
        have := hj j h1 (by omega)
        rw [fNm, if_neg (by omega)] at this
        exact this)
      rw [fGet, fSet, e0]
      refine ⟨by rw [a1, fVl, if_neg (by omega)], by show f.2.length + frLocs (fSet F w v) = _; rw [a2, frLocs], fun j => ?_, fun j => ?_, ?_, by show (fSet F w v).length + 1 = _; rw [a6]; rfl, by show _ :: (fSet F w v).map _ = _; rw [a7]; rfl⟩
      · show fNm (f :: fSet F w v) j = _
        rw [fNm, fNm, a2, a3]
      · show fVl (f :: fSet F w v) j = _
        rw [fVl, fVl, a2, a4]
        split
        · rw [if_neg (by omega)]
        · rfl
      · intro f' hf'
        rcases List.mem_cons.mp hf' with rfl | h
        · exact nd _ List.mem_cons_self
        · exact a5 f' h
    · have hk9 : k - frLocs F < f.2.length := by omega
      rw [fNm, if_pos hge, getD_in hk9] at hw
      obtain ⟨b1, b2⟩ := lGet_some f.2 (k - frLocs F) hk9 v (nd f List.mem_cons_self) hw
      rw [fGet, fSet, b1]
      have el : (lSet f.2 w v).length = f.2.length := by rw [b2, List.length_set]
      refine ⟨by rw [fVl, if_pos hge, getD_in hk9], ?_, fun j => ?_, fun j => ?_, ?_, rfl, ?_⟩
      · show (lSet f.2 w v).length + frLocs F = _
        rw [el, frLocs]
      · show fNm ((f.1, lSet f.2 w v) :: F) j = _
        rw [fNm, fNm]
        split
        · show ((lSet f.2 w v).getD _ _).1 = _
          rw [b2]
          rcases Nat.lt_or_ge (j - frLocs F) f.2.length with h9 | h9
          · rw [getD_in (by rw [List.length_set]; exact h9), getD_in h9, List.getElem_set]
            split
            · next e =>
              simp only [e] at hw
              exact hw.symm
            · rfl
          · rw [getD_out (by rw [List.length_set]; exact h9), getD_out h9]
        · rfl
      · show fVl ((f.1, lSet f.2 w v) :: F) j = _
        rw [fVl, fVl]
        split
        · show ((lSet f.2 w v).getD _ _).2 = _
          rw [b2]
          rcases Nat.lt_or_ge (j - frLocs F) f.2.length with h9 | h9
          · rw [getD_in (by rw [List.length_set]; exact h9), getD_in h9, List.getElem_set]
            split
            · rw [if_pos (by omega)]
            · rw [if_neg (by omega)]
          · rw [getD_out (by rw [List.length_set]; exact h9), getD_out h9, if_neg (by omega)]
        · rw [if_neg (by omega)]
      · intro f' hf'
        rcases List.mem_cons.mp hf' with rfl | h
        · show ((lSet f.2 w v).map (·.1)).Nodup
          have : (lSet f.2 w v).map (·.1) = f.2.map (·.1) := by
            rw [b2, List.map_set]
            apply List.ext_getElem
            · simp
            · intro q h1 h2
              rw [List.getElem_set]
              split
              · next e => subst e; simp [hw]
              · rfl
          rw [this]
          exact nd _ List.mem_cons_self
        · exact nd f' (List.mem_cons_of_mem _ h)
      · show ((f.1, (lSet f.2 w v).length) :: _) = _
        rw [el]
        rfl
theorem fGet_no {w : Nm} : ∀ (F : List Fr), (∀ j, j < frLocs F → fNm F j ≠ w) → fGet F w = none := by
  intro F
  induction F with
  | nil => intro _; rfl
  | cons f F ih =>
    intro hj
    rw [frLocs] at hj
    have hn : ∀ j (h : j < f.2.length), (f.2[j]'h).1 ≠ w := by
      intro j h
      have := hj (frLocs F + j) (by omega)
      rw [fNm, if_pos (by omega), show frLocs F + j - frLocs F = j by omega, getD_in h] at this
      exact this
    rw [fGet, lGet_none f.2 hn]
    exact ih (fun j h => by
      have := hj j (by omega)
      rw [fNm, if_neg (by omega)] at this
      exact this)

