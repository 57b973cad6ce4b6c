/-! numbers that are read out of letters -/
theorem lcle_p {δ : Type} {a b : Nat} {x y : δ} [Decidable (lg_cmp (lN a) (lN b) ≤ nI 0)] (h : a ≤ b ∧ b < 9000000000000000000) : (if lg_cmp (lN a) (lN b) ≤ nI 0 then x else y) = x := if_pos ((lg_cmp_le _ _).mpr ((pk_lLE (by omega) (by omega)).mpr h.1))
theorem lcle_n {δ : Type} {a b : Nat} {x y : δ} [Decidable (lg_cmp (lN a) (lN b) ≤ nI 0)] (h : b < a ∧ a < 9000000000000000000) : (if lg_cmp (lN a) (lN b) ≤ nI 0 then x else y) = y := if_neg (fun e => absurd ((pk_lLE (by omega) (by omega)).mp ((lg_cmp_le _ _).mp e)) (by omega))
theorem lclt_p {δ : Type} {a b : Nat} {x y : δ} [Decidable (nI 0 < lg_cmp (lN a) (lN b))] (h : b < a ∧ a < 9000000000000000000) : (if nI 0 < lg_cmp (lN a) (lN b) then x else y) = x := if_pos ((lg_cmp_gt _ _).mpr ((pk_lLT (by omega) (by omega)).mpr h.1))
theorem lclt_n {δ : Type} {a b : Nat} {x y : δ} [Decidable (nI 0 < lg_cmp (lN a) (lN b))] (h : a ≤ b ∧ b < 9000000000000000000) : (if nI 0 < lg_cmp (lN a) (lN b) then x else y) = y := if_neg (fun e => absurd ((pk_lLT (by omega) (by omega)).mp ((lg_cmp_gt _ _).mp e)) (by omega))
theorem nI_l64 {n : Nat} (h : n < 2147483648) : (nI n).toInt64 = lN n := nI_l (by omega)
theorem isub_n {δ : Type} {a b : Nat} {x y : δ} [Decidable (nI a - nI b < nI 0)] (h : a < b ∧ b < 1073741824) : (if nI a - nI b < nI 0 then x else y) = x := if_pos (pk_sneg (by omega) h.1)
theorem mmin2_n {n a b : Nat} (ha : a < 9000000000000000000) (hb : b < 9000000000000000000) : m_Math_min2 n (lN a) (lN b) = some (lN (min a b)) := by
  unfold m_Math_min2
  rcases Nat.lt_or_ge b a with h | h
  · simp (disch := omega) only [ob_s, ob0_s, ob1_s, i32_lit, ile_p, ile_n, ilt_p, ilt_n, ieq_p, ieq_n, ck_n, cl_n, sub_n, nI_add, sh_w, sh_l, an3_w, an3_l, an1_w, an1_l, hN_1, hN_3w, hN_3l, if_true, if_false, l64_lit, lcle_p, lcle_n, lclt_p, lclt_n, lN_mul, lN_add, nI_l64, isub_n, Nat.min_eq_right (show b ≤ a by omega)]
  · simp (disch := omega) only [ob_s, ob0_s, ob1_s, i32_lit, ile_p, ile_n, ilt_p, ilt_n, ieq_p, ieq_n, ck_n, cl_n, sub_n, nI_add, sh_w, sh_l, an3_w, an3_l, an1_w, an1_l, hN_1, hN_3w, hN_3l, if_true, if_false, l64_lit, lcle_p, lcle_n, lclt_p, lclt_n, lN_mul, lN_add, nI_l64, isub_n, Nat.min_eq_left (show a ≤ b by omega)]
theorem hN_sh {x : Int32} {n : Int} (h : x = Int32.ofInt n) : x <<< (nI 1 &&& nI 31) = hN n := by
  apply Int32.toBitVec_inj.mp
  apply BitVec.eq_of_toNat_eq
  rw [pk_shl _ _ 1 (by decide), hN_tn, h]
  have e : (Int32.ofInt n).toBitVec.toNat = (n % 4294967296).toNat := by
    show (BitVec.ofInt 32 n).toNat = _
    rw [BitVec.toNat_ofInt]
    rfl
  rw [e]
  omega
theorem lN_neg32 (v : Nat) : (-(lN v)).toInt32 = Int32.ofInt (-(v : Int)) := by
  have e : lN v = Int64.ofInt (v : Int) := (rfl)
  rw [e, ← Int64.ofInt_neg, Int64.toInt32_ofInt]
theorem lN_pos32 (v : Nat) : (lN v).toInt32 = Int32.ofInt (v : Int) := by
  have e : lN v = Int64.ofInt (v : Int) := (rfl)
  rw [e, Int64.toInt32_ofInt]
theorem nI_ofInt (v : Nat) : nI v = Int32.ofInt (v : Int) := (rfl)
/-- what comes of it at the end -/
def numR (p : Nat × Int) : Int32 := if p.1 = 0 then -nI 2147483648 else if p.1 = 1 then hN p.2 else -nI 2147483639
def numEnd (neg emp : Bool) (r : Option Nat) : Nat × Int := match r with
  | none => (0, 0)
  | some v => if emp then (0, 0) else if 1000000000 < v then (2, 0) else (1, if neg then -(v : Int) else v)
theorem aVal_le : ∀ (l : List Nat) (v : Nat), v ≤ 1000000001 → ∀ r, aVal l v = some r → r ≤ 1000000001 := by
  intro l
  induction l with
  | nil => intro v hv r h; cases h; exact hv
  | cons c l ih =>
    intro v hv r h
    rw [aVal] at h
    split at h
    · exact ih _ (by omega) r h
    · cases h


theorem h_num_a0_b {n : Nat} {g : Nat → Nat} {i : Nat → Int32} {a : Nat → Nat → Int32} (hg : g 0 ≤ 340000) {p to s : Nat} (hto : to ≤ (g 0)) (hs : s ≤ to) (hps : p ≤ s ∧ s ≤ p + 1) : ∀ (l : List Nat) (q f v : Nat), q + l.length = to → s ≤ q → l.length < f → v ≤ 1000000001 → (∀ c ∈ l, c ≤ 126) → (∀ k (h : k < l.length), a 0 (q + k) = nI (l[k]'h)) → m_Heap_numberIn_a0_b40 n g i a f (nI p) (nI to) (nI s) (lN v) (nI q) = some (numR (numEnd (decide (p < s)) (decide (s = to)) (aVal l v))) := by
  intro l
  induction l with
  | nil =>
    intro q f v e1 e2 hf hv hc hr
    obtain ⟨f, rfl⟩ : ∃ f', f = f' + 1 := ⟨f - 1, by omega⟩
    have eq : q = to := e1
    subst eq
    rw [m_Heap_numberIn_a0_b40, aVal]
    unfold numEnd numR
    rcases Classical.em (s = q) with h | h
    · simp (disch := omega) only [ob_s, ob0_s, ob1_s, i32_lit, ile_p, ile_n, ilt_p, ilt_n, ieq_p, ieq_n, ck_n, cl_n, sub_n, nI_add, sh_w, sh_l, an3_w, an3_l, an1_w, an1_l, hN_1, hN_3w, hN_3l, if_true, if_false, l64_lit, lcle_p, lcle_n, lclt_p, lclt_n, lN_mul, lN_add, nI_l64, isub_n, h, decide_true]
    · rcases Nat.lt_or_ge 1000000000 v with hv2 | hv2
      · simp (disch := omega) only [ob_s, ob0_s, ob1_s, i32_lit, ile_p, ile_n, ilt_p, ilt_n, ieq_p, ieq_n, ck_n, cl_n, sub_n, nI_add, sh_w, sh_l, an3_w, an3_l, an1_w, an1_l, hN_1, hN_3w, hN_3l, if_true, if_false, l64_lit, lcle_p, lcle_n, lclt_p, lclt_n, lN_mul, lN_add, nI_l64, isub_n, h, decide_false, hv2, Nat.succ_ne_self, reduceCtorEq]
      · rcases Nat.lt_or_ge p s with hp | hp
        · simp (disch := omega) only [ob_s, ob0_s, ob1_s, i32_lit, ile_p, ile_n, ilt_p, ilt_n, ieq_p, ieq_n, ck_n, cl_n, sub_n, nI_add, sh_w, sh_l, an3_w, an3_l, an1_w, an1_l, hN_1, hN_3w, hN_3l, if_true, if_false, l64_lit, lcle_p, lcle_n, lclt_p, lclt_n, lN_mul, lN_add, nI_l64, isub_n, h, decide_false, hp, decide_true]
          unfold m_Heap_number
          simp (disch := omega) only [ob_s, ob0_s, ob1_s, i32_lit, ile_p, ile_n, ilt_p, ilt_n, ieq_p, ieq_n, ck_n, cl_n, sub_n, nI_add, sh_w, sh_l, an3_w, an3_l, an1_w, an1_l, hN_1, hN_3w, hN_3l, if_true, if_false, l64_lit, lcle_p, lcle_n, lclt_p, lclt_n, lN_mul, lN_add, nI_l64, isub_n, hN_sh (lN_neg32 v), Nat.not_lt.mpr hv2]
          simp
        · have hp2 : ¬ p < s := by omega
          simp (disch := omega) only [ob_s, ob0_s, ob1_s, i32_lit, ile_p, ile_n, ilt_p, ilt_n, ieq_p, ieq_n, ck_n, cl_n, sub_n, nI_add, sh_w, sh_l, an3_w, an3_l, an1_w, an1_l, hN_1, hN_3w, hN_3l, if_true, if_false, l64_lit, lcle_p, lcle_n, lclt_p, lclt_n, lN_mul, lN_add, nI_l64, isub_n, h, decide_false, hp2]
          unfold m_Heap_number
          simp (disch := omega) only [ob_s, ob0_s, ob1_s, i32_lit, ile_p, ile_n, ilt_p, ilt_n, ieq_p, ieq_n, ck_n, cl_n, sub_n, nI_add, sh_w, sh_l, an3_w, an3_l, an1_w, an1_l, hN_1, hN_3w, hN_3l, if_true, if_false, l64_lit, lcle_p, lcle_n, lclt_p, lclt_n, lN_mul, lN_add, nI_l64, isub_n, hN_sh (lN_pos32 v), Nat.not_lt.mpr hv2]
          simp
  | cons c l ih =>
    intro q f v e1 e2 hf hv hc hr
    obtain ⟨f, rfl⟩ : ∃ f', f = f' + 1 := ⟨f - 1, by omega⟩
    rw [m_Heap_numberIn_a0_b40, aVal]
    have ec : a 0 q = nI c := hr 0 (by simp)
    have hc1 := hc c (by simp)
    simp only [List.length_cons] at e1 hf
    have hq : q < to := by omega
    rcases Nat.lt_or_ge c 48 with h1 | h1
    · simp (disch := omega) only [ob_s, ob0_s, ob1_s, i32_lit, ile_p, ile_n, ilt_p, ilt_n, ieq_p, ieq_n, ck_n, cl_n, sub_n, nI_add, sh_w, sh_l, an3_w, an3_l, an1_w, an1_l, hN_1, hN_3w, hN_3l, if_true, if_false, l64_lit, lcle_p, lcle_n, lclt_p, lclt_n, lN_mul, lN_add, nI_l64, isub_n, ec]
      rw [if_neg (by omega)]
      rfl
    · rcases Nat.lt_or_ge 57 c with h2 | h2
      · simp (disch := omega) only [ob_s, ob0_s, ob1_s, i32_lit, ile_p, ile_n, ilt_p, ilt_n, ieq_p, ieq_n, ck_n, cl_n, sub_n, nI_add, sh_w, sh_l, an3_w, an3_l, an1_w, an1_l, hN_1, hN_3w, hN_3l, if_true, if_false, l64_lit, lcle_p, lcle_n, lclt_p, lclt_n, lN_mul, lN_add, nI_l64, isub_n, ec]
        rw [if_neg (by omega)]
        rfl
      · have em : m_Math_min2 n (lN (10 * v + (c - 48))) (lN 1000000001) = some (lN (min (10 * v + (c - 48)) 1000000001)) := mmin2_n (by omega) (by omega)
        simp (disch := omega) only [ob_s, ob0_s, ob1_s, i32_lit, ile_p, ile_n, ilt_p, ilt_n, ieq_p, ieq_n, ck_n, cl_n, sub_n, nI_add, sh_w, sh_l, an3_w, an3_l, an1_w, an1_l, hN_1, hN_3w, hN_3l, if_true, if_false, l64_lit, lcle_p, lcle_n, lclt_p, lclt_n, lN_mul, lN_add, nI_l64, isub_n, ec, em]
        rw [if_pos (by omega)]
        refine ih (q + 1) f _ (by omega) (by omega) (by omega) (by omega) (fun x hx => hc x (List.mem_cons_of_mem _ hx)) (fun k hk => ?_)
        have := hr (k + 1) (by simp; omega)
        rw [show q + 1 + k = q + (k + 1) by omega]
        exact this
theorem h_num_a0 {n : Nat} {g : Nat → Nat} {i : Nat → Int32} {a : Nat → Nat → Int32} (hg : g 0 ≤ 340000) {p : Nat} {l : List Nat} (hn : l.length < n) (hl : l ≠ []) (hto : p + l.length ≤ (g 0)) (hc : ∀ c ∈ l, c ≤ 126) (hr : ∀ k (h : k < l.length), a 0 (p + k) = nI (l[k]'h)) : m_Heap_numberIn_a0 n g i a (nI p) (nI (p + l.length)) = some (numR (aPar l)) := by
  obtain ⟨c, r, rfl⟩ := List.exists_cons_of_ne_nil hl
  have ec : a 0 p = nI c := hr 0 (by simp)
  have hc1 := hc c (by simp)
  unfold m_Heap_numberIn_a0 aPar
  simp only [List.length_cons] at hn hto ⊢
  rcases Classical.em (c = 45) with rfl | h45
  · simp (disch := omega) only [ob_s, ob0_s, ob1_s, i32_lit, ile_p, ile_n, ilt_p, ilt_n, ieq_p, ieq_n, ck_n, cl_n, sub_n, nI_add, sh_w, sh_l, an3_w, an3_l, an1_w, an1_l, hN_1, hN_3w, hN_3l, if_true, if_false, l64_lit, lcle_p, lcle_n, lclt_p, lclt_n, lN_mul, lN_add, nI_l64, isub_n, ec, List.head?_cons, List.tail_cons]
    unfold m_Heap_numberIn_a0_b33
    have := h_num_a0_b (n := n) (i := i) (a := a) (g := g) hg (p := p) (to := p + (r.length + 1)) (s := p + 1) hto (by omega) (by omega) r (p + 1) n 0 (by omega) (by omega) (by omega) (by omega) (fun x hx => hc x (List.mem_cons_of_mem _ hx)) (fun k hk => by
      have := hr (k + 1) (by simp; omega)
      rw [show p + 1 + k = p + (k + 1) by omega]
      exact this)
    rw [l64_lit, this]
    congr 2
    unfold numEnd
    rcases Classical.em (r = []) with rfl | hr0
    · simp [aVal]
    · have : ¬ p + 1 = p + (r.length + 1) := by
        have : r.length ≠ 0 := fun e => hr0 (List.length_eq_zero_iff.mp e)
        omega
      simp [hr0]
      cases aVal r 0 <;> simp
  · simp (disch := omega) only [ob_s, ob0_s, ob1_s, i32_lit, ile_p, ile_n, ilt_p, ilt_n, ieq_p, ieq_n, ck_n, cl_n, sub_n, nI_add, sh_w, sh_l, an3_w, an3_l, an1_w, an1_l, hN_1, hN_3w, hN_3l, if_true, if_false, l64_lit, lcle_p, lcle_n, lclt_p, lclt_n, lN_mul, lN_add, nI_l64, isub_n, ec, List.head?_cons, List.tail_cons]
    unfold m_Heap_numberIn_a0_b33
    have := h_num_a0_b (n := n) (i := i) (a := a) (g := g) hg (p := p) (to := p + (r.length + 1)) (s := p) hto (by omega) (by omega) (c :: r) p n 0 (by simp) (by omega) (by simp; omega) (by omega) hc hr
    rw [l64_lit, this]
    congr 2
    unfold numEnd
    simp [h45]
    cases aVal (c :: r) 0 <;> simp


theorem h_num_a28_b {n : Nat} {g : Nat → Nat} {i : Nat → Int32} {a : Nat → Nat → Int32} {p to s : Nat} (hto : to ≤ 8192) (hs : s ≤ to) (hps : p ≤ s ∧ s ≤ p + 1) : ∀ (l : List Nat) (q f v : Nat), q + l.length = to → s ≤ q → l.length < f → v ≤ 1000000001 → (∀ c ∈ l, c ≤ 126) → (∀ k (h : k < l.length), a 28 (q + k) = nI (l[k]'h)) → m_Heap_numberIn_a28_b40 n g i a f (nI p) (nI to) (nI s) (lN v) (nI q) = some (numR (numEnd (decide (p < s)) (decide (s = to)) (aVal l v))) := by
  intro l
  induction l with
  | nil =>
    intro q f v e1 e2 hf hv hc hr
    obtain ⟨f, rfl⟩ : ∃ f', f = f' + 1 := ⟨f - 1, by omega⟩
    have eq : q = to := e1
    subst eq
    rw [m_Heap_numberIn_a28_b40, aVal]
    unfold numEnd numR
    rcases Classical.em (s = q) with h | h
    · simp (disch := omega) only [ob_s, ob0_s, ob1_s, i32_lit, ile_p, ile_n, ilt_p, ilt_n, ieq_p, ieq_n, ck_n, cl_n, sub_n, nI_add, sh_w, sh_l, an3_w, an3_l, an1_w, an1_l, hN_1, hN_3w, hN_3l, if_true, if_false, l64_lit, lcle_p, lcle_n, lclt_p, lclt_n, lN_mul, lN_add, nI_l64, isub_n, h, decide_true]
    · rcases Nat.lt_or_ge 1000000000 v with hv2 | hv2
      · simp (disch := omega) only [ob_s, ob0_s, ob1_s, i32_lit, ile_p, ile_n, ilt_p, ilt_n, ieq_p, ieq_n, ck_n, cl_n, sub_n, nI_add, sh_w, sh_l, an3_w, an3_l, an1_w, an1_l, hN_1, hN_3w, hN_3l, if_true, if_false, l64_lit, lcle_p, lcle_n, lclt_p, lclt_n, lN_mul, lN_add, nI_l64, isub_n, h, decide_false, hv2, Nat.succ_ne_self, reduceCtorEq]
      · rcases Nat.lt_or_ge p s with hp | hp
        · simp (disch := omega) only [ob_s, ob0_s, ob1_s, i32_lit, ile_p, ile_n, ilt_p, ilt_n, ieq_p, ieq_n, ck_n, cl_n, sub_n, nI_add, sh_w, sh_l, an3_w, an3_l, an1_w, an1_l, hN_1, hN_3w, hN_3l, if_true, if_false, l64_lit, lcle_p, lcle_n, lclt_p, lclt_n, lN_mul, lN_add, nI_l64, isub_n, h, decide_false, hp, decide_true]
          unfold m_Heap_number
          simp (disch := omega) only [ob_s, ob0_s, ob1_s, i32_lit, ile_p, ile_n, ilt_p, ilt_n, ieq_p, ieq_n, ck_n, cl_n, sub_n, nI_add, sh_w, sh_l, an3_w, an3_l, an1_w, an1_l, hN_1, hN_3w, hN_3l, if_true, if_false, l64_lit, lcle_p, lcle_n, lclt_p, lclt_n, lN_mul, lN_add, nI_l64, isub_n, hN_sh (lN_neg32 v), Nat.not_lt.mpr hv2]
          simp
        · have hp2 : ¬ p < s := by omega
          simp (disch := omega) only [ob_s, ob0_s, ob1_s, i32_lit, ile_p, ile_n, ilt_p, ilt_n, ieq_p, ieq_n, ck_n, cl_n, sub_n, nI_add, sh_w, sh_l, an3_w, an3_l, an1_w, an1_l, hN_1, hN_3w, hN_3l, if_true, if_false, l64_lit, lcle_p, lcle_n, lclt_p, lclt_n, lN_mul, lN_add, nI_l64, isub_n, h, decide_false, hp2]
          unfold m_Heap_number
          simp (disch := omega) only [ob_s, ob0_s, ob1_s, i32_lit, ile_p, ile_n, ilt_p, ilt_n, ieq_p, ieq_n, ck_n, cl_n, sub_n, nI_add, sh_w, sh_l, an3_w, an3_l, an1_w, an1_l, hN_1, hN_3w, hN_3l, if_true, if_false, l64_lit, lcle_p, lcle_n, lclt_p, lclt_n, lN_mul, lN_add, nI_l64, isub_n, hN_sh (lN_pos32 v), Nat.not_lt.mpr hv2]
          simp
  | cons c l ih =>
    intro q f v e1 e2 hf hv hc hr
    obtain ⟨f, rfl⟩ : ∃ f', f = f' + 1 := ⟨f - 1, by omega⟩
    rw [m_Heap_numberIn_a28_b40, aVal]
    have ec : a 28 q = nI c := hr 0 (by simp)
    have hc1 := hc c (by simp)
    simp only [List.length_cons] at e1 hf
    have hq : q < to := by omega
    rcases Nat.lt_or_ge c 48 with h1 | h1
    · simp (disch := omega) only [ob_s, ob0_s, ob1_s, i32_lit, ile_p, ile_n, ilt_p, ilt_n, ieq_p, ieq_n, ck_n, cl_n, sub_n, nI_add, sh_w, sh_l, an3_w, an3_l, an1_w, an1_l, hN_1, hN_3w, hN_3l, if_true, if_false, l64_lit, lcle_p, lcle_n, lclt_p, lclt_n, lN_mul, lN_add, nI_l64, isub_n, ec]
      rw [if_neg (by omega)]
      rfl
    · rcases Nat.lt_or_ge 57 c with h2 | h2
      · simp (disch := omega) only [ob_s, ob0_s, ob1_s, i32_lit, ile_p, ile_n, ilt_p, ilt_n, ieq_p, ieq_n, ck_n, cl_n, sub_n, nI_add, sh_w, sh_l, an3_w, an3_l, an1_w, an1_l, hN_1, hN_3w, hN_3l, if_true, if_false, l64_lit, lcle_p, lcle_n, lclt_p, lclt_n, lN_mul, lN_add, nI_l64, isub_n, ec]
        rw [if_neg (by omega)]
        rfl
      · have em : m_Math_min2 n (lN (10 * v + (c - 48))) (lN 1000000001) = some (lN (min (10 * v + (c - 48)) 1000000001)) := mmin2_n (by omega) (by omega)
        simp (disch := omega) only [ob_s, ob0_s, ob1_s, i32_lit, ile_p, ile_n, ilt_p, ilt_n, ieq_p, ieq_n, ck_n, cl_n, sub_n, nI_add, sh_w, sh_l, an3_w, an3_l, an1_w, an1_l, hN_1, hN_3w, hN_3l, if_true, if_false, l64_lit, lcle_p, lcle_n, lclt_p, lclt_n, lN_mul, lN_add, nI_l64, isub_n, ec, em]
        rw [if_pos (by omega)]
        refine ih (q + 1) f _ (by omega) (by omega) (by omega) (by omega) (fun x hx => hc x (List.mem_cons_of_mem _ hx)) (fun k hk => ?_)
        have := hr (k + 1) (by simp; omega)
        rw [show q + 1 + k = q + (k + 1) by omega]
        exact this
theorem h_num_a28 {n : Nat} {g : Nat → Nat} {i : Nat → Int32} {a : Nat → Nat → Int32} {p : Nat} {l : List Nat} (hn : l.length < n) (hl : l ≠ []) (hto : p + l.length ≤ 8192) (hc : ∀ c ∈ l, c ≤ 126) (hr : ∀ k (h : k < l.length), a 28 (p + k) = nI (l[k]'h)) : m_Heap_numberIn_a28 n g i a (nI p) (nI (p + l.length)) = some (numR (aPar l)) := by
  obtain ⟨c, r, rfl⟩ := List.exists_cons_of_ne_nil hl
  have ec : a 28 p = nI c := hr 0 (by simp)
  have hc1 := hc c (by simp)
  unfold m_Heap_numberIn_a28 aPar
  simp only [List.length_cons] at hn hto ⊢
  rcases Classical.em (c = 45) with rfl | h45
  · simp (disch := omega) only [ob_s, ob0_s, ob1_s, i32_lit, ile_p, ile_n, ilt_p, ilt_n, ieq_p, ieq_n, ck_n, cl_n, sub_n, nI_add, sh_w, sh_l, an3_w, an3_l, an1_w, an1_l, hN_1, hN_3w, hN_3l, if_true, if_false, l64_lit, lcle_p, lcle_n, lclt_p, lclt_n, lN_mul, lN_add, nI_l64, isub_n, ec, List.head?_cons, List.tail_cons]
    unfold m_Heap_numberIn_a28_b33
    have := h_num_a28_b (n := n) (i := i) (a := a) (g := g) (p := p) (to := p + (r.length + 1)) (s := p + 1) hto (by omega) (by omega) r (p + 1) n 0 (by omega) (by omega) (by omega) (by omega) (fun x hx => hc x (List.mem_cons_of_mem _ hx)) (fun k hk => by
      have := hr (k + 1) (by simp; omega)
      rw [show p + 1 + k = p + (k + 1) by omega]
      exact this)
    rw [l64_lit, this]
    congr 2
    unfold numEnd
    rcases Classical.em (r = []) with rfl | hr0
    · simp [aVal]
    · have : ¬ p + 1 = p + (r.length + 1) := by
        have : r.length ≠ 0 := fun e => hr0 (List.length_eq_zero_iff.mp e)
        omega
      simp [hr0]
      cases aVal r 0 <;> simp
  · simp (disch := omega) only [ob_s, ob0_s, ob1_s, i32_lit, ile_p, ile_n, ilt_p, ilt_n, ieq_p, ieq_n, ck_n, cl_n, sub_n, nI_add, sh_w, sh_l, an3_w, an3_l, an1_w, an1_l, hN_1, hN_3w, hN_3l, if_true, if_false, l64_lit, lcle_p, lcle_n, lclt_p, lclt_n, lN_mul, lN_add, nI_l64, isub_n, ec, List.head?_cons, List.tail_cons]
    unfold m_Heap_numberIn_a28_b33
    have := h_num_a28_b (n := n) (i := i) (a := a) (g := g) (p := p) (to := p + (r.length + 1)) (s := p) hto (by omega) (by omega) (c :: r) p n 0 (by simp) (by omega) (by simp; omega) (by omega) hc hr
    rw [l64_lit, this]
    congr 2
    unfold numEnd
    simp [h45]
    cases aVal (c :: r) 0 <;> simp


theorem h_num_a31_b {n : Nat} {g : Nat → Nat} {i : Nat → Int32} {a : Nat → Nat → Int32} {p to s : Nat} (hto : to ≤ 4000) (hs : s ≤ to) (hps : p ≤ s ∧ s ≤ p + 1) : ∀ (l : List Nat) (q f v : Nat), q + l.length = to → s ≤ q → l.length < f → v ≤ 1000000001 → (∀ c ∈ l, c ≤ 126) → (∀ k (h : k < l.length), a 31 (q + k) = nI (l[k]'h)) → m_Heap_numberIn_a31_b40 n g i a f (nI p) (nI to) (nI s) (lN v) (nI q) = some (numR (numEnd (decide (p < s)) (decide (s = to)) (aVal l v))) := by
  intro l
  induction l with
  | nil =>
    intro q f v e1 e2 hf hv hc hr
    obtain ⟨f, rfl⟩ : ∃ f', f = f' + 1 := ⟨f - 1, by omega⟩
    have eq : q = to := e1
    subst eq
    rw [m_Heap_numberIn_a31_b40, aVal]
    unfold numEnd numR
    rcases Classical.em (s = q) with h | h
    · simp (disch := omega) only [ob_s, ob0_s, ob1_s, i32_lit, ile_p, ile_n, ilt_p, ilt_n, ieq_p, ieq_n, ck_n, cl_n, sub_n, nI_add, sh_w, sh_l, an3_w, an3_l, an1_w, an1_l, hN_1, hN_3w, hN_3l, if_true, if_false, l64_lit, lcle_p, lcle_n, lclt_p, lclt_n, lN_mul, lN_add, nI_l64, isub_n, h, decide_true]
    · rcases Nat.lt_or_ge 1000000000 v with hv2 | hv2
      · simp (disch := omega) only [ob_s, ob0_s, ob1_s, i32_lit, ile_p, ile_n, ilt_p, ilt_n, ieq_p, ieq_n, ck_n, cl_n, sub_n, nI_add, sh_w, sh_l, an3_w, an3_l, an1_w, an1_l, hN_1, hN_3w, hN_3l, if_true, if_false, l64_lit, lcle_p, lcle_n, lclt_p, lclt_n, lN_mul, lN_add, nI_l64, isub_n, h, decide_false, hv2, Nat.succ_ne_self, reduceCtorEq]
      · rcases Nat.lt_or_ge p s with hp | hp
        · simp (disch := omega) only [ob_s, ob0_s, ob1_s, i32_lit, ile_p, ile_n, ilt_p, ilt_n, ieq_p, ieq_n, ck_n, cl_n, sub_n, nI_add, sh_w, sh_l, an3_w, an3_l, an1_w, an1_l, hN_1, hN_3w, hN_3l, if_true, if_false, l64_lit, lcle_p, lcle_n, lclt_p, lclt_n, lN_mul, lN_add, nI_l64, isub_n, h, decide_false, hp, decide_true]
          unfold m_Heap_number
          simp (disch := omega) only [ob_s, ob0_s, ob1_s, i32_lit, ile_p, ile_n, ilt_p, ilt_n, ieq_p, ieq_n, ck_n, cl_n, sub_n, nI_add, sh_w, sh_l, an3_w, an3_l, an1_w, an1_l, hN_1, hN_3w, hN_3l, if_true, if_false, l64_lit, lcle_p, lcle_n, lclt_p, lclt_n, lN_mul, lN_add, nI_l64, isub_n, hN_sh (lN_neg32 v), Nat.not_lt.mpr hv2]
          simp
        · have hp2 : ¬ p < s := by omega
          simp (disch := omega) only [ob_s, ob0_s, ob1_s, i32_lit, ile_p, ile_n, ilt_p, ilt_n, ieq_p, ieq_n, ck_n, cl_n, sub_n, nI_add, sh_w, sh_l, an3_w, an3_l, an1_w, an1_l, hN_1, hN_3w, hN_3l, if_true, if_false, l64_lit, lcle_p, lcle_n, lclt_p, lclt_n, lN_mul, lN_add, nI_l64, isub_n, h, decide_false, hp2]
          unfold m_Heap_number
          simp (disch := omega) only [ob_s, ob0_s, ob1_s, i32_lit, ile_p, ile_n, ilt_p, ilt_n, ieq_p, ieq_n, ck_n, cl_n, sub_n, nI_add, sh_w, sh_l, an3_w, an3_l, an1_w, an1_l, hN_1, hN_3w, hN_3l, if_true, if_false, l64_lit, lcle_p, lcle_n, lclt_p, lclt_n, lN_mul, lN_add, nI_l64, isub_n, hN_sh (lN_pos32 v), Nat.not_lt.mpr hv2]
          simp
  | cons c l ih =>
    intro q f v e1 e2 hf hv hc hr
    obtain ⟨f, rfl⟩ : ∃ f', f = f' + 1 := ⟨f - 1, by omega⟩
    rw [m_Heap_numberIn_a31_b40, aVal]
    have ec : a 31 q = nI c := hr 0 (by simp)
    have hc1 := hc c (by simp)
    simp only [List.length_cons] at e1 hf
    have hq : q < to := by omega
    rcases Nat.lt_or_ge c 48 with h1 | h1
    · simp (disch := omega) only [ob_s, ob0_s, ob1_s, i32_lit, ile_p, ile_n, ilt_p, ilt_n, ieq_p, ieq_n, ck_n, cl_n, sub_n, nI_add, sh_w, sh_l, an3_w, an3_l, an1_w, an1_l, hN_1, hN_3w, hN_3l, if_true, if_false, l64_lit, lcle_p, lcle_n, lclt_p, lclt_n, lN_mul, lN_add, nI_l64, isub_n, ec]
      rw [if_neg (by omega)]
      rfl
    · rcases Nat.lt_or_ge 57 c with h2 | h2
      · simp (disch := omega) only [ob_s, ob0_s, ob1_s, i32_lit, ile_p, ile_n, ilt_p, ilt_n, ieq_p, ieq_n, ck_n, cl_n, sub_n, nI_add, sh_w, sh_l, an3_w, an3_l, an1_w, an1_l, hN_1, hN_3w, hN_3l, if_true, if_false, l64_lit, lcle_p, lcle_n, lclt_p, lclt_n, lN_mul, lN_add, nI_l64, isub_n, ec]
        rw [if_neg (by omega)]
        rfl
      · have em : m_Math_min2 n (lN (10 * v + (c - 48))) (lN 1000000001) = some (lN (min (10 * v + (c - 48)) 1000000001)) := mmin2_n (by omega) (by omega)
        simp (disch := omega) only [ob_s, ob0_s, ob1_s, i32_lit, ile_p, ile_n, ilt_p, ilt_n, ieq_p, ieq_n, ck_n, cl_n, sub_n, nI_add, sh_w, sh_l, an3_w, an3_l, an1_w, an1_l, hN_1, hN_3w, hN_3l, if_true, if_false, l64_lit, lcle_p, lcle_n, lclt_p, lclt_n, lN_mul, lN_add, nI_l64, isub_n, ec, em]
        rw [if_pos (by omega)]
        refine ih (q + 1) f _ (by omega) (by omega) (by omega) (by omega) (fun x hx => hc x (List.mem_cons_of_mem _ hx)) (fun k hk => ?_)
        have := hr (k + 1) (by simp; omega)
        rw [show q + 1 + k = q + (k + 1) by omega]
        exact this
theorem h_num_a31 {n : Nat} {g : Nat → Nat} {i : Nat → Int32} {a : Nat → Nat → Int32} {p : Nat} {l : List Nat} (hn : l.length < n) (hl : l ≠ []) (hto : p + l.length ≤ 4000) (hc : ∀ c ∈ l, c ≤ 126) (hr : ∀ k (h : k < l.length), a 31 (p + k) = nI (l[k]'h)) : m_Heap_numberIn_a31 n g i a (nI p) (nI (p + l.length)) = some (numR (aPar l)) := by
  obtain ⟨c, r, rfl⟩ := List.exists_cons_of_ne_nil hl
  have ec : a 31 p = nI c := hr 0 (by simp)
  have hc1 := hc c (by simp)
  unfold m_Heap_numberIn_a31 aPar
  simp only [List.length_cons] at hn hto ⊢
  rcases Classical.em (c = 45) with rfl | h45
  · simp (disch := omega) only [ob_s, ob0_s, ob1_s, i32_lit, ile_p, ile_n, ilt_p, ilt_n, ieq_p, ieq_n, ck_n, cl_n, sub_n, nI_add, sh_w, sh_l, an3_w, an3_l, an1_w, an1_l, hN_1, hN_3w, hN_3l, if_true, if_false, l64_lit, lcle_p, lcle_n, lclt_p, lclt_n, lN_mul, lN_add, nI_l64, isub_n, ec, List.head?_cons, List.tail_cons]
    unfold m_Heap_numberIn_a31_b33
    have := h_num_a31_b (n := n) (i := i) (a := a) (g := g) (p := p) (to := p + (r.length + 1)) (s := p + 1) hto (by omega) (by omega) r (p + 1) n 0 (by omega) (by omega) (by omega) (by omega) (fun x hx => hc x (List.mem_cons_of_mem _ hx)) (fun k hk => by
      have := hr (k + 1) (by simp; omega)
      rw [show p + 1 + k = p + (k + 1) by omega]
      exact this)
    rw [l64_lit, this]
    congr 2
    unfold numEnd
    rcases Classical.em (r = []) with rfl | hr0
    · simp [aVal]
    · have : ¬ p + 1 = p + (r.length + 1) := by
        have : r.length ≠ 0 := fun e => hr0 (List.length_eq_zero_iff.mp e)
        omega
      simp [hr0]
      cases aVal r 0 <;> simp
  · simp (disch := omega) only [ob_s, ob0_s, ob1_s, i32_lit, ile_p, ile_n, ilt_p, ilt_n, ieq_p, ieq_n, ck_n, cl_n, sub_n, nI_add, sh_w, sh_l, an3_w, an3_l, an1_w, an1_l, hN_1, hN_3w, hN_3l, if_true, if_false, l64_lit, lcle_p, lcle_n, lclt_p, lclt_n, lN_mul, lN_add, nI_l64, isub_n, ec, List.head?_cons, List.tail_cons]
    unfold m_Heap_numberIn_a31_b33
    have := h_num_a31_b (n := n) (i := i) (a := a) (g := g) (p := p) (to := p + (r.length + 1)) (s := p) hto (by omega) (by omega) (c :: r) p n 0 (by simp) (by omega) (by simp; omega) (by omega) hc hr
    rw [l64_lit, this]
    congr 2
    unfold numEnd
    simp [h45]
    cases aVal (c :: r) 0 <;> simp

/-- what is given: a value, nothing, or an error -/
def gV (f : Nat → Int32) (T : Nat) (r : Rs) (x : Int32) : Prop := match r with
  | .ok none => x = -nI 2147483648
  | .ok (some t) => cV f T t none x
  | .error e => x = -nI (2147483648 - e)
theorem h_behind {n : Nat} {g : Nat → Nat} {i : Nat → Int32} {a : Nat → Nat → Int32} {top : Nat} (ht : top ≤ g 0) (hg : g 0 ≤ 340000) {c : Nat} {r : List Nat} {v : Int32} (h : cV (a 0) top (tW (c :: r)) none v) (hc : c = 34 ∨ c = 58) : (r = [] → m_Heap_behind n g i a v = some (-nI 2147483648)) ∧ (r ≠ [] → ∃ x, m_Heap_behind n g i a v = some x ∧ cV (a 0) top (tW r) none x) := by
  obtain ⟨p, rfl, hq⟩ := cV_tW.mp h
  obtain ⟨q1, q2, q3, q4, q5, q6, q7, q8⟩ := id hq
  simp only [List.length_cons] at q3 q4 q7
  constructor
  · intro e
    subst e
    have e1 : a 0 (p + 1) = nI 0 := q7
    unfold m_Heap_behind
    simp only [List.length_nil] at q3 q4 q7
    simp (disch := omega) only [ob_s, ob0_s, ob1_s, i32_lit, ile_p, ile_n, ilt_p, ilt_n, ieq_p, ieq_n, ck_n, cl_n, sub_n, nI_add, sh_w, sh_l, an3_w, an3_l, an1_w, an1_l, hN_1, hN_3w, hN_3l, if_true, if_false, e1]
  · intro e
    have hl : 1 ≤ r.length := by
      rcases Nat.eq_zero_or_pos r.length with h | h
      · exact absurd (List.length_eq_zero_iff.mp h) e
      · exact h
    have e1 : a 0 (p + 1) = nI (r[0]'hl) := q6 1 (by simp; omega)
    have e2 := q5 (r[0]'hl) (List.mem_cons_of_mem _ (List.getElem_mem hl))
    refine ⟨nI (4 * (p + 1) + 3), ?_, cV_tW.mpr ⟨p + 1, rfl, by omega, e, by omega, by omega, fun x hx => q5 x (List.mem_cons_of_mem _ hx), fun k hk => ?_, ?_, Or.inr ?_⟩⟩
    · unfold m_Heap_behind
      simp (disch := omega) only [ob_s, ob0_s, ob1_s, i32_lit, ile_p, ile_n, ilt_p, ilt_n, ieq_p, ieq_n, ck_n, cl_n, sub_n, nI_add, sh_w, sh_l, an3_w, an3_l, an1_w, an1_l, hN_1, hN_3w, hN_3l, if_true, if_false, e1, mk_w]
    · have := q6 (k + 1) (by simp; omega)
      rw [show p + 1 + k = p + (k + 1) by omega]
      exact this
    · rw [← q7]; congr 1; omega
    · have : a 0 p = nI c := q6 0 (by simp)
      rw [show p + 1 - 1 = p by omega, this]
      refine ⟨?_, cWd_sA (l := c :: r) hq⟩
      rcases hc with rfl | rfl
      · exact Or.inl rfl
      · exact Or.inr rfl
theorem aPar_big {c : Nat} {r : List Nat} (h : 57 < c) : aPar (c :: r) = (0, 0) := by
  have h45 : ¬ c = 45 := by omega
  have e : aVal (c :: r) 0 = none := by rw [aVal, if_neg (by omega)]
  unfold aPar
  simp [h45, e]
theorem aPar_def (l : List Nat) : ∃ (ds : List Nat) (neg : Bool), aPar l = numEnd neg (decide (ds = [])) (aVal ds 0) := by
  rcases Classical.em (l.head? = some 45) with h | h
  · refine ⟨l.tail, true, ?_⟩
    unfold aPar numEnd
    simp only [h, if_true]
    rcases Classical.em (l.tail = []) with e | e
    · simp [e, aVal]
    · simp only [e, if_false, decide_false]
      cases aVal l.tail 0 <;> simp
  · refine ⟨l, false, ?_⟩
    unfold aPar numEnd
    simp only [h, if_false]
    rcases Classical.em (l = []) with e | e
    · simp [e, aVal]
    · simp only [e, if_false, decide_false]
      cases aVal l 0 <;> simp
theorem aPar_cases (l : List Nat) : aPar l = (0, 0) ∨ aPar l = (2, 0) ∨ ∃ k, aPar l = (1, k) ∧ -1000000000 ≤ k ∧ k ≤ 1000000000 := by
  obtain ⟨ds, neg, e⟩ := aPar_def l
  rw [e]
  unfold numEnd
  cases aVal ds 0 with
  | none => exact Or.inl rfl
  | some v =>
    cases decide (ds = []) with
    | true => exact Or.inl rfl
    | false =>
      rcases Nat.lt_or_ge 1000000000 v with h | h
      · right; left; simp [h]
      · right; right
        have h' : ¬ 1000000000 < v := by omega
        cases neg
        · exact ⟨v, by simp [h'], by omega, by omega⟩
        · exact ⟨-(v : Int), by simp [h'], by omega, by omega⟩
theorem h_quoted {n : Nat} {g : Nat → Nat} {i : Nat → Int32} {a : Nat → Nat → Int32} {top : Nat} (ht : top ≤ g 0) (hg : g 0 ≤ 340000) {r : List Nat} {v : Int32} (hn : 1000 ≤ n) (h : cV (a 0) top (tW (34 :: r)) none v) : ∃ x, m_Heap_quoted n g i a v = some x ∧ gV (a 0) top (aQuote (34 :: r)) x := by
  obtain ⟨b1, b2⟩ := h_behind (n := n) (i := i) ht hg h (Or.inl rfl)
  unfold m_Heap_quoted aQuote
  rw [List.tail_cons]
  rcases Classical.em (r = []) with e | e
  · rw [b1 e, if_pos e]
    refine ⟨-nI 2147483645, ?_, rfl⟩
    simp (disch := omega) only [ob_s, ob0_s, ob1_s, i32_lit, ile_p, ile_n, ilt_p, ilt_n, ieq_p, ieq_n, ck_n, cl_n, sub_n, nI_add, sh_w, sh_l, an3_w, an3_l, an1_w, an1_l, hN_1, hN_3w, hN_3l, if_true, if_false]
  · obtain ⟨x, e1, e2⟩ := b2 e
    rw [if_neg e]
    have no := cV_no (by omega) e2
    have es := h_size (n := n) (i := i) ht hg (by omega) e2
    obtain ⟨p, rfl, q1, q2, q3, q4, q5, q6, q7, q8⟩ := cV_tW.mp e2
    obtain ⟨c, r', rfl⟩ := List.exists_cons_of_ne_nil e
    have ec : a 0 p = nI c := q6 0 (by simp)
    have hc := q5 c (by simp)
    rw [tSz_tW] at es
    rcases Nat.lt_or_ge 57 c with hb | hb
    · refine ⟨nI (4 * p + 3), ?_, ?_⟩
      · simp (disch := omega) only [ob_s, ob0_s, ob1_s, i32_lit, ile_p, ile_n, ilt_p, ilt_n, ieq_p, ieq_n, ck_n, cl_n, sub_n, nI_add, sh_w, sh_l, an3_w, an3_l, an1_w, an1_l, hN_1, hN_3w, hN_3l, if_true, if_false, e1, no, ec]
      · rw [aPar_big hb]
        exact e2
    · have en := h_num_a0 (n := n) (i := i) hg (p := p) (l := c :: r') (by omega) (by simp) (by omega) (fun x hx => (q5 x hx).2) q6
      rcases aPar_cases (c :: r') with h9 | h9 | ⟨k, h9, k1, k2⟩
      · refine ⟨nI (4 * p + 3), ?_, by rw [h9]; exact e2⟩
        simp (disch := omega) only [ob_s, ob0_s, ob1_s, i32_lit, ile_p, ile_n, ilt_p, ilt_n, ieq_p, ieq_n, ck_n, cl_n, sub_n, nI_add, sh_w, sh_l, an3_w, an3_l, an1_w, an1_l, hN_1, hN_3w, hN_3l, if_true, if_false, e1, no, ec, es, en, h9]
        rfl
      · refine ⟨-nI 2147483639, ?_, by rw [h9]; rfl⟩
        simp (disch := omega) only [ob_s, ob0_s, ob1_s, i32_lit, ile_p, ile_n, ilt_p, ilt_n, ieq_p, ieq_n, ck_n, cl_n, sub_n, nI_add, sh_w, sh_l, an3_w, an3_l, an1_w, an1_l, hN_1, hN_3w, hN_3l, if_true, if_false, e1, no, ec, es, en, h9]
        rfl
      · refine ⟨hN k, ?_, by rw [h9]; exact (show cV (a 0) top (tN k) none (hN k) from cV_tN.mpr ⟨k1, k2, rfl⟩)⟩
        simp (disch := omega) only [ob_s, ob0_s, ob1_s, i32_lit, ile_p, ile_n, ilt_p, ilt_n, ieq_p, ieq_n, ck_n, cl_n, sub_n, nI_add, sh_w, sh_l, an3_w, an3_l, an1_w, an1_l, hN_1, hN_3w, hN_3l, if_true, if_false, e1, no, ec, es, en, h9]
        have e0 : numR (1, k) = hN k := rfl
        have e9 : hN k ≠ -nI 2147483648 := cV_no (f := a 0) (top := top) (t := tN k) (by omega) (cV_tN.mpr ⟨k1, k2, rfl⟩)
        rw [e0, if_neg e9]

