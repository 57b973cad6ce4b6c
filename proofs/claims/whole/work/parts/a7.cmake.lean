/-! making words and lists in the class's cells -/
theorem mmax_n {n a b : Nat} (ha : a < 2147483648) (hb : b < 2147483648) : m_Math_max n (nI a) (nI b) = some (nI (max a b)) := by
  unfold m_Math_max
  rcases Nat.lt_or_ge a b with h | h
  · rw [ilt_p (by omega), Nat.max_eq_right (by omega)]
  · rw [ilt_n (by omega), Nat.max_eq_left (by omega)]
theorem mmin_n {n a b : Nat} (ha : a < 2147483648) (hb : b < 2147483648) : m_Math_min n (nI a) (nI b) = some (nI (min a b)) := by
  unfold m_Math_min
  rcases Nat.le_total a b with h | h
  · rcases Nat.eq_or_lt_of_le h with h | h
    · subst h
      simp (disch := omega) only [ob_s, ob0_s, ob1_s, i32_lit, ile_p, ile_n, ilt_p, ilt_n, ieq_p, ieq_n, ck_n, cl_n, sub_n, nI_add, sh_w, sh_l, an3_w, an3_l, an1_w, an1_l, hN_1, hN_3w, hN_3l, if_true, if_false, Nat.min_self, ite_self]
    · simp (disch := omega) only [ob_s, ob0_s, ob1_s, i32_lit, ile_p, ile_n, ilt_p, ilt_n, ieq_p, ieq_n, ck_n, cl_n, sub_n, nI_add, sh_w, sh_l, an3_w, an3_l, an1_w, an1_l, hN_1, hN_3w, hN_3l, if_true, if_false, Nat.min_eq_left (show a ≤ b by omega)]
  · rcases Nat.eq_or_lt_of_le h with h | h
    · subst h
      simp (disch := omega) only [ob_s, ob0_s, ob1_s, i32_lit, ile_p, ile_n, ilt_p, ilt_n, ieq_p, ieq_n, ck_n, cl_n, sub_n, nI_add, sh_w, sh_l, an3_w, an3_l, an1_w, an1_l, hN_1, hN_3w, hN_3l, if_true, if_false, Nat.min_self, ite_self]
    · simp (disch := omega) only [ob_s, ob0_s, ob1_s, i32_lit, ile_p, ile_n, ilt_p, ilt_n, ieq_p, ieq_n, ck_n, cl_n, sub_n, nI_add, sh_w, sh_l, an3_w, an3_l, an1_w, an1_l, hN_1, hN_3w, hN_3l, if_true, if_false, Nat.min_eq_right (show b ≤ a by omega)]
theorem mminr_n {a b : Nat} (ha : a < 2147483648) (hb : b < 2147483648) : m_Math_min_r (nI a) (nI b) = nI (min a b) := by
  unfold m_Math_min_r
  rcases Nat.lt_or_ge b a with h | h
  · rw [ilt_p (by omega), Nat.min_eq_right (by omega)]
  · rw [ilt_n (by omega), Nat.min_eq_left (by omega)]
def hPot (x : Nat) : Nat := if x < 340000 then 3 * x else 1360000
def gPot (g : Nat → Nat) : Nat := hPot (g 0) + hPot (g 1)
/-- the cells may have got a longer row; k: what that made -/
def hGrow (g g' : Nat → Nat) (k : Nat × Nat) : Prop := g 0 ≤ g' 0 ∧ g' 0 ≤ 340000 ∧ g' 1 = g 1 ∧ 16384 * k.1 ≤ k.2 ∧ k.2 + gPot g ≤ gPot g'
theorem hGrow_refl {g : Nat → Nat} (h : g 0 ≤ 340000) : hGrow g g (0, 0) := ⟨Nat.le_refl _, h, rfl, Nat.le_refl _, by show 0 + gPot g ≤ gPot g; omega⟩
theorem hGrow_trans {g g' g2 : Nat → Nat} {k l : Nat × Nat} (h : hGrow g g' k) (h' : hGrow g' g2 l) : hGrow g g2 (k.1 + l.1, k.2 + l.2) := by
  obtain ⟨a1, a2, a3, a4, a5⟩ := h
  obtain ⟨b1, b2, b3, b4, b5⟩ := h'
  exact ⟨by omega, b2, by rw [b3, a3], by show 16384 * (k.1 + l.1) ≤ k.2 + l.2; omega, by show k.2 + l.2 + gPot g ≤ gPot g2; omega⟩
theorem updA_self (a : Nat → Nat → Int32) (k : Nat) : updA a k (a k) = a := by
  funext j; unfold updA; by_cases h : j = k <;> simp [h]
theorem obG_s {α β γ δ ε : Type} {x : α} {y : β} {z : γ} {k : Nat × Nat} {r : ε} {f : α → β → γ → ε → Option (α × β × γ × (Nat × Nat) × δ)} {x' : α} {y' : β} {z' : γ} {k' : Nat × Nat} {r' : δ} (h : f x y z r = some (x', y', z', k', r')) : obG (some (x, y, z, k, r)) f = some (x', y', z', (k.1 + k'.1, k.2 + k'.2), r') := by
  unfold obG
  simp only [h]
theorem h_reserve {n : Nat} {g : Nat → Nat} {i : Nat → Int32} {a : Nat → Nat → Int32} {T c : Nat} (hi : i 8 = nI T) (h1 : T + c ≤ 340000) (h3 : 16384 ≤ g 0) (h4 : g 0 ≤ 340000) : ∃ f g' k, m_Heap_reserve n g i a (nI c) = some (i, updA a 0 f, g', k, nI 1) ∧ (∀ x, x < g 0 → f x = a 0 x) ∧ T + c ≤ g' 0 ∧ hGrow g g' k := by
  unfold m_Heap_reserve
  rcases Nat.lt_or_ge (g 0) (T + c) with h | h
  · obtain ⟨r, hr⟩ : ∃ r, r = min 340000 (max (2 * g 0) (T + c)) := ⟨_, rfl⟩
    have e1 : m_Math_max n (nI (2 * g 0)) (nI (T + c)) = some (nI (max (2 * g 0) (T + c))) := mmax_n (by omega) (by omega)
    have e2 : m_Math_min n (nI 340000) (nI (max (2 * g 0) (T + c))) = some (nI r) := by rw [mmin_n (by omega) (by omega), hr]
    have e3 : m_Math_min_r (nI (g 0)) (nI r) = nI (g 0) := by rw [mminr_n (by omega) (by omega), Nat.min_eq_left (by omega)]
    refine ⟨va_cpy (a 0) (fun _ => 0) 0 0 (g 0), updN g 0 r, (1, r), ?_, ?_, ?_, ?_⟩
    · simp (disch := omega) only [ob_s, ob0_s, ob1_s, i32_lit, ile_p, ile_n, ilt_p, ilt_n, ieq_p, ieq_n, ck_n, cl_n, sub_n, nI_add, sh_w, sh_l, an3_w, an3_l, an1_w, an1_l, hN_1, hN_3w, hN_3l, if_true, if_false, hi, pk_mul, e1, e2, e3]
      unfold cg
      rw [if_neg]
      · unfold gw
        rfl
      · rintro (h | h | h | h | h | h)
        · have := (nI_eq (by omega) (by omega)).mp h; omega
        · exact nI_pos (by omega) h
        · rw [nI_clamp (by omega)] at h
          have : componentBytes .int = 4 := rfl
          rw [this] at h
          omega
        · exact nI_pos (by omega) h
        · rw [nI_clamp (by omega)] at h; omega
        · rw [nI_clamp (by omega), nI_clamp (by omega)] at h; omega
    · intro x hx
      unfold va_cpy
      rw [if_pos (by omega)]
      congr 1
      omega
    · show T + c ≤ r
      omega
    · have e : gPot (updN g 0 r) = hPot r + hPot (g 1) := rfl
      refine ⟨by show g 0 ≤ r; omega, by show r ≤ 340000; omega, rfl, by show 16384 * 1 ≤ r; omega, ?_⟩
      rw [e]
      show r + (hPot (g 0) + hPot (g 1)) ≤ _
      unfold hPot
      rcases Nat.lt_or_ge r 340000 with h9 | h9
      · rw [if_pos h9, if_pos (by omega : g 0 < 340000)]
        omega
      · rw [if_neg (by omega : ¬ r < 340000), if_pos (by omega : g 0 < 340000)]
        omega
  · refine ⟨a 0, g, (0, 0), ?_, fun x _ => rfl, h, hGrow_refl h4⟩
    simp (disch := omega) only [ob_s, ob0_s, ob1_s, i32_lit, ile_p, ile_n, ilt_p, ilt_n, ieq_p, ieq_n, ck_n, cl_n, sub_n, nI_add, sh_w, sh_l, an3_w, an3_l, an1_w, an1_l, hN_1, hN_3w, hN_3l, if_true, if_false, hi]
    rw [updA_self]
/-- what stood below the top stands there still -/
theorem cWd_mono {f f' : Nat → Int32} {T T' p : Nat} {l : List Nat} (hT : T ≤ T') (hf : ∀ x, x < T → f' x = f x) (h : cWd f T p l) : cWd f' T' p l := by
  obtain ⟨q1, q2, q3, q4, q5, q6, q7, q8⟩ := h
  refine ⟨q1, q2, q3, by omega, q5, fun k hk => ?_, ?_, ?_⟩
  · rw [hf _ (by omega)]; exact q6 k hk
  · rw [hf _ (by omega)]; exact q7
  · rw [hf _ (by omega), sA_congr (p - 1) (fun x hx => hf x (by omega))]; exact q8
theorem cWd_sA {f : Nat → Int32} {T p : Nat} {l : List Nat} (h : cWd f T p l) : sA f p = 1 := by
  obtain ⟨q1, q2, q3, q4, q5, q6, q7, q8⟩ := h
  have el := aLex_lt l
  obtain ⟨p, rfl⟩ : ∃ p', p = p' + 1 := ⟨p - 1, by omega⟩
  rw [show p + 1 - 1 = p by omega] at q8
  rcases q8 with ⟨e1, e2, e3⟩ | ⟨e1, e2⟩
  · rw [sA_succ (by omega), e3, sStep, if_pos rfl, e1, cl_n (by omega), if_neg (by omega)]
  · have hp : 1 ≤ p := by
      rcases Nat.eq_zero_or_pos p with h | h
      · subst h; cases e2
      · exact h
    rw [sA_succ hp, e2, sStep, if_neg (by decide), if_pos rfl]
    rcases e1 with e1 | e1 <;> rw [e1] <;> rfl
theorem cHd_mono {f f' : Nat → Int32} {T T' p c s d e : Nat} (hT : T ≤ T') (hf : ∀ x, x < T → f' x = f x) (h : cHd f T p c s d e) : cHd f' T' p c s d e := by
  obtain ⟨q1, q2, q3, q4, q5⟩ := h
  exact ⟨⟨q1.1, by rw [sA_congr p (fun x hx => hf x (by omega))]; exact q1.2⟩, by omega, q3, q4, by rw [hf _ (by omega)]; exact q5⟩
theorem cV_mono {f f' : Nat → Int32} {T T' : Nat} (hT : T ≤ T') (hf : ∀ x, x < T → f' x = f x) : ∀ (t : Tr), (∀ v, cV f T t none v → cV f' T' t none v) ∧ (∀ p v, p + (tMem t).length ≤ T → cV f T t (some p) v → cV f' T' t (some p) v) := by
  intro t
  induction t with
  | nest n t _ => exact ⟨fun v h => h, fun p v _ h => h.elim⟩
  | tag c t _ =>
    refine ⟨fun v h => ?_, fun p v _ h => h.elim⟩
    obtain ⟨p, h1, h2, h3⟩ := h
    exact ⟨p, h1, h2, cWd_mono hT hf h3⟩
  | nil =>
    refine ⟨fun v h => ?_, fun p v _ h => trivial⟩
    obtain ⟨p, h1, h2⟩ := h
    exact ⟨p, h1, cHd_mono hT hf h2⟩
  | append m t ihm iht =>
    constructor
    · intro v h
      rw [cV_an] at h ⊢
      obtain ⟨p, h1, h2, h3, h4⟩ := h
      have := h2.2.1
      refine ⟨p, h1, cHd_mono hT hf h2, ?_, iht.2 _ _ (by omega) h4⟩
      rw [hf _ (by omega)]
      exact ihm.1 _ h3
    · intro p v hp h
      rw [cV_as] at h ⊢
      have e : (tMem (.append m t)).length = (tMem t).length + 1 := rfl
      rw [e] at hp
      refine ⟨?_, iht.2 _ _ (by omega) h.2⟩
      rw [hf _ (by omega)]
      exact ihm.1 _ h.1
  | _ => exact ⟨fun v h => h.elim, fun p v _ h => h.elim⟩
theorem cV_up {f f' : Nat → Int32} {T T' : Nat} {t : Tr} {v : Int32} (h : cV f T t none v) (hT : T ≤ T') (hf : ∀ x, x < T → f' x = f x) : cV f' T' t none v := (cV_mono hT hf t).1 v h
/-- a list without its members -/
theorem h_newList {n : Nat} {g : Nat → Nat} {i : Nat → Int32} {a : Nat → Nat → Int32} {T c s : Nat} (hi : i 8 = nI T) (hT : T ≤ g 0) (hT0 : 1 ≤ T ∧ sA (a 0) T = 0) (h1 : T + c + 1 ≤ 340000) (h3 : 16384 ≤ g 0) (h4 : g 0 ≤ 340000) (hc : c < 8192) (hs : s < 131072) : ∃ f g' k, m_Heap_newList n g i a (nI c) (nI s) = some (upd i 8 (nI (T + 1 + c)), updA a 0 f, g', k, nI (4 * T + 1)) ∧ (∀ x, x < T → f x = a 0 x) ∧ f T = nI (1073741824 + 8192 * s + c) ∧ (T + 1 + c ≤ g' 0 ∧ sA f (T + 1 + c) = 0) ∧ hGrow g g' k := by
  obtain ⟨f, g', k, e, hf, h5, h6⟩ := h_reserve (n := n) (a := a) (c := c + 1) hi (by omega) h3 h4
  refine ⟨upd f T (nI (1073741824 + 8192 * s + c)), g', k, ?_, ?_, ?_, ⟨by omega, ?_⟩, h6⟩
  · unfold m_Heap_newList
    simp (disch := omega) only [ob_s, ob0_s, ob1_s, i32_lit, ile_p, ile_n, ilt_p, ilt_n, ieq_p, ieq_n, ck_n, cl_n, sub_n, nI_add, sh_w, sh_l, an3_w, an3_l, an1_w, an1_l, hN_1, hN_3w, hN_3l, if_true, if_false, e]
    have h8 := h6.2.1
    refine (obG_s (k' := (0, 0)) ?_).trans (by rfl)
    simp (disch := omega) only [ob_s, ob0_s, ob1_s, i32_lit, ile_p, ile_n, ilt_p, ilt_n, ieq_p, ieq_n, ck_n, cl_n, sub_n, nI_add, sh_w, sh_l, an3_w, an3_l, an1_w, an1_l, hN_1, hN_3w, hN_3l, if_true, if_false, hi, hd_mk, mk_l]
    unfold sv
    rw [updA_at, updA_updA]
  · intro x hx
    rw [upd_ne (by omega), hf x (by omega)]
  · rw [upd_at]
  · refine sA_list_end (s := s) ⟨hT0.1, ?_⟩ (by rw [upd_at]) hc hs
    rw [sA_congr (f := a 0) T (fun x hx => by rw [upd_ne (by omega), hf x (by omega)])]
    exact hT0.2

theorem cy_n {δ : Type} {sp dp m n0 n1 : Nat} {k : Option δ} (h : sp + m ≤ n0 ∧ dp + m ≤ n1 ∧ n0 < 2147483648 ∧ n1 < 2147483648) : cy (nI sp) (nI dp) (nI m) n0 n1 k = k := by
  unfold cy
  rw [if_neg]
  rw [nI_clamp (by omega), nI_clamp (by omega), nI_clamp (by omega)]
  rintro (q | q | q | q | q)
  · exact nI_pos (by omega) q
  · exact nI_pos (by omega) q
  · exact nI_pos (by omega) q
  · omega
  · omega
theorem upd_comm {f : Nat → Int32} {k j : Nat} {x y : Int32} (h : k ≠ j) : upd (upd f k x) j y = upd (upd f j y) k x := by
  funext q
  unfold upd
  by_cases h1 : q = j
  · subst h1
    rw [if_pos rfl, if_neg (fun e => h e.symm), if_pos rfl]
  · rw [if_neg h1]
    by_cases h2 : q = k
    · rw [if_pos h2, if_pos h2]
    · rw [if_neg h2, if_neg h2, if_neg h1]
theorem lexOk_heap {a : Nat → Nat → Int32} {f : Nat → Int32} (h : lexOk a) : lexOk (updA a 0 f) := h
/-- a word of letters that stand in a row -/
theorem h_newWord_a28 {n : Nat} {g : Nat → Nat} {i : Nat → Int32} {a : Nat → Nat → Int32} {T p : Nat} {l : List Nat} (hx : lexOk a) (hn : 1000 ≤ n) (hi : i 8 = nI T) (hT : T ≤ g 0) (hT0 : 1 ≤ T ∧ sA (a 0) T = 0) (h1 : T + l.length + 2 ≤ 340000) (h3 : 16384 ≤ g 0) (h4 : g 0 ≤ 340000) (h0 : l ≠ []) (hl : l.length ≤ 30) (hok : okLs l) (hp : p + l.length ≤ 8192) (hr : ∀ k (h : k < l.length), a 28 (p + k) = nI (l[k]'h)) : ∃ f g' k, m_Heap_newWord_a28 n g i a (nI p) (nI l.length) = some (upd i 8 (nI (T + l.length + 2)), updA a 0 f, g', k, nI (4 * (T + 1) + 3)) ∧ (∀ x, x < T → f x = a 0 x) ∧ cV f (T + l.length + 2) (tW l) none (nI (4 * (T + 1) + 3)) ∧ (T + l.length + 2 ≤ g' 0 ∧ sA f (T + l.length + 2) = 0) ∧ hGrow g g' k := by
  obtain ⟨f, g', k, e, hf, h5, h6⟩ := h_reserve (n := n) (a := a) (c := l.length + 2) hi (by omega) h3 h4
  have h8 := h6.2.1
  have hpos : 1 ≤ l.length := by
    rcases Nat.eq_zero_or_pos l.length with h | h
    · exact absurd (List.length_eq_zero_iff.mp h) h0
    · exact h
  obtain ⟨f1, ef1⟩ : ∃ f1, f1 = upd (va_cpy (a 28) f p (T + 1) l.length) (T + 1 + l.length) (nI 0) := ⟨_, rfl⟩
  have hrow : inRow f1 (g' 0) (T + 1) l := by
    refine ⟨by omega, hok, fun k hk => ?_, by rw [ef1, upd_at]⟩
    rw [ef1, upd_ne (by omega), ← hr k hk]
    unfold va_cpy
    rw [if_pos (by omega)]
    congr 1
    omega
  have em : m_Lexicon_meaning_a0 n g' i (updA a 0 f1) (nI (T + 1)) = some (nI (aLex l)) := lx_meaning (a := updA a 0 f1) h8 (lexOk_heap hx) hn hrow hl h0
  have hlow : ∀ x, x < T → f1 x = a 0 x := by
    intro x hx
    rw [ef1, upd_ne (by omega)]
    unfold va_cpy
    rw [if_neg (by omega), hf x (by omega)]
  refine ⟨upd f1 T (nI (128 + aLex l)), g', k, ?_, ?_, ?_, ⟨by omega, ?_⟩, h6⟩
  · unfold m_Heap_newWord_a28
    simp (disch := omega) only [ob_s, ob0_s, ob1_s, i32_lit, ile_p, ile_n, ilt_p, ilt_n, ieq_p, ieq_n, ck_n, cl_n, sub_n, nI_add, sh_w, sh_l, an3_w, an3_l, an1_w, an1_l, hN_1, hN_3w, hN_3l, if_true, if_false, e]
    refine (obG_s (k' := (0, 0)) ?_).trans (by rfl)
    simp (disch := omega) only [ob_s, ob0_s, ob1_s, i32_lit, ile_p, ile_n, ilt_p, ilt_n, ieq_p, ieq_n, ck_n, cl_n, sub_n, nI_add, sh_w, sh_l, an3_w, an3_l, an1_w, an1_l, hN_1, hN_3w, hN_3l, if_true, if_false, hi, cy_n]
    have e1 : sv (updA (updA a 0 f) 0 (va_cpy (updA a 0 f 28) (updA a 0 f 0) p (T + 1) l.length)) 0 (T + 1 + l.length) (nI 0) = updA a 0 f1 := by
      unfold sv
      rw [updA_at, updA_updA, updA_updA, updA_at, updA_ne (by decide), ef1]
    simp (disch := omega) only [e1, em, ob_s, ob0_s, ob1_s, i32_lit, ile_p, ile_n, ilt_p, ilt_n, ieq_p, ieq_n, ck_n, cl_n, sub_n, nI_add, sh_w, sh_l, an3_w, an3_l, an1_w, an1_l, hN_1, hN_3w, hN_3l, if_true, if_false, mk_w]
    unfold sv
    rw [updA_at, updA_updA, show T + 1 + l.length + 1 = T + l.length + 2 by omega]
  · intro x hx
    rw [upd_ne (by omega), hlow x hx]
  · refine cV_tW.mpr ⟨T + 1, rfl, by omega, h0, hl, by omega, hok, fun k hk => ?_, ?_, Or.inl ⟨?_, by omega, ?_⟩⟩
    · rw [upd_ne (by omega)]
      exact hrow.2.2.1 k hk
    · rw [upd_ne (by omega)]
      exact hrow.2.2.2
    · rw [show T + 1 - 1 = T by omega, upd_at]
    · rw [show T + 1 - 1 = T by omega, sA_congr (f := a 0) T (fun x hx => by rw [upd_ne (by omega), hlow x hx])]
      exact hT0.2
  · have el := aLex_lt l
    have := (sA_word (f := upd f1 T (nI (128 + aLex l))) (p := T) (m := 128 + aLex l) (l := l) hT0.1 (by
      rw [sA_congr (f := a 0) T (fun x hx => by rw [upd_ne (by omega), hlow x hx])]
      exact hT0.2) (by rw [upd_at]) (by omega) hok (fun k hk => by
        rw [upd_ne (by omega)]
        exact hrow.2.2.1 k hk) (by
        rw [upd_ne (by omega)]
        exact hrow.2.2.2)).2
    rw [show T + l.length + 2 = T + 1 + l.length + 1 by omega]
    exact this
/-- a word of letters that stand in a row -/
theorem h_newWord_a31 {n : Nat} {g : Nat → Nat} {i : Nat → Int32} {a : Nat → Nat → Int32} {T p : Nat} {l : List Nat} (hx : lexOk a) (hn : 1000 ≤ n) (hi : i 8 = nI T) (hT : T ≤ g 0) (hT0 : 1 ≤ T ∧ sA (a 0) T = 0) (h1 : T + l.length + 2 ≤ 340000) (h3 : 16384 ≤ g 0) (h4 : g 0 ≤ 340000) (h0 : l ≠ []) (hl : l.length ≤ 30) (hok : okLs l) (hp : p + l.length ≤ 4000) (hr : ∀ k (h : k < l.length), a 31 (p + k) = nI (l[k]'h)) : ∃ f g' k, m_Heap_newWord_a31 n g i a (nI p) (nI l.length) = some (upd i 8 (nI (T + l.length + 2)), updA a 0 f, g', k, nI (4 * (T + 1) + 3)) ∧ (∀ x, x < T → f x = a 0 x) ∧ cV f (T + l.length + 2) (tW l) none (nI (4 * (T + 1) + 3)) ∧ (T + l.length + 2 ≤ g' 0 ∧ sA f (T + l.length + 2) = 0) ∧ hGrow g g' k := by
  obtain ⟨f, g', k, e, hf, h5, h6⟩ := h_reserve (n := n) (a := a) (c := l.length + 2) hi (by omega) h3 h4
  have h8 := h6.2.1
  have hpos : 1 ≤ l.length := by
    rcases Nat.eq_zero_or_pos l.length with h | h
    · exact absurd (List.length_eq_zero_iff.mp h) h0
    · exact h
  obtain ⟨f1, ef1⟩ : ∃ f1, f1 = upd (va_cpy (a 31) f p (T + 1) l.length) (T + 1 + l.length) (nI 0) := ⟨_, rfl⟩
  have hrow : inRow f1 (g' 0) (T + 1) l := by
    refine ⟨by omega, hok, fun k hk => ?_, by rw [ef1, upd_at]⟩
    rw [ef1, upd_ne (by omega), ← hr k hk]
    unfold va_cpy
    rw [if_pos (by omega)]
    congr 1
    omega
  have em : m_Lexicon_meaning_a0 n g' i (updA a 0 f1) (nI (T + 1)) = some (nI (aLex l)) := lx_meaning (a := updA a 0 f1) h8 (lexOk_heap hx) hn hrow hl h0
  have hlow : ∀ x, x < T → f1 x = a 0 x := by
    intro x hx
    rw [ef1, upd_ne (by omega)]
    unfold va_cpy
    rw [if_neg (by omega), hf x (by omega)]
  refine ⟨upd f1 T (nI (128 + aLex l)), g', k, ?_, ?_, ?_, ⟨by omega, ?_⟩, h6⟩
  · unfold m_Heap_newWord_a31
    simp (disch := omega) only [ob_s, ob0_s, ob1_s, i32_lit, ile_p, ile_n, ilt_p, ilt_n, ieq_p, ieq_n, ck_n, cl_n, sub_n, nI_add, sh_w, sh_l, an3_w, an3_l, an1_w, an1_l, hN_1, hN_3w, hN_3l, if_true, if_false, e]
    refine (obG_s (k' := (0, 0)) ?_).trans (by rfl)
    simp (disch := omega) only [ob_s, ob0_s, ob1_s, i32_lit, ile_p, ile_n, ilt_p, ilt_n, ieq_p, ieq_n, ck_n, cl_n, sub_n, nI_add, sh_w, sh_l, an3_w, an3_l, an1_w, an1_l, hN_1, hN_3w, hN_3l, if_true, if_false, hi, cy_n]
    have e1 : sv (updA (updA a 0 f) 0 (va_cpy (updA a 0 f 31) (updA a 0 f 0) p (T + 1) l.length)) 0 (T + 1 + l.length) (nI 0) = updA a 0 f1 := by
      unfold sv
      rw [updA_at, updA_updA, updA_updA, updA_at, updA_ne (by decide), ef1]
    simp (disch := omega) only [e1, em, ob_s, ob0_s, ob1_s, i32_lit, ile_p, ile_n, ilt_p, ilt_n, ieq_p, ieq_n, ck_n, cl_n, sub_n, nI_add, sh_w, sh_l, an3_w, an3_l, an1_w, an1_l, hN_1, hN_3w, hN_3l, if_true, if_false, mk_w]
    unfold sv
    rw [updA_at, updA_updA, show T + 1 + l.length + 1 = T + l.length + 2 by omega]
  · intro x hx
    rw [upd_ne (by omega), hlow x hx]
  · refine cV_tW.mpr ⟨T + 1, rfl, by omega, h0, hl, by omega, hok, fun k hk => ?_, ?_, Or.inl ⟨?_, by omega, ?_⟩⟩
    · rw [upd_ne (by omega)]
      exact hrow.2.2.1 k hk
    · rw [upd_ne (by omega)]
      exact hrow.2.2.2
    · rw [show T + 1 - 1 = T by omega, upd_at]
    · rw [show T + 1 - 1 = T by omega, sA_congr (f := a 0) T (fun x hx => by rw [upd_ne (by omega), hlow x hx])]
      exact hT0.2
  · have el := aLex_lt l
    have := (sA_word (f := upd f1 T (nI (128 + aLex l))) (p := T) (m := 128 + aLex l) (l := l) hT0.1 (by
      rw [sA_congr (f := a 0) T (fun x hx => by rw [upd_ne (by omega), hlow x hx])]
      exact hT0.2) (by rw [upd_at]) (by omega) hok (fun k hk => by
        rw [upd_ne (by omega)]
        exact hrow.2.2.1 k hk) (by
        rw [upd_ne (by omega)]
        exact hrow.2.2.2)).2
    rw [show T + l.length + 2 = T + 1 + l.length + 1 by omega]
    exact this
/-- a list of members that stand in a row -/
theorem h_newListOf_a32_b {n : Nat} {g : Nat → Nat} {i : Nat → Int32} {a : Nat → Nat → Int32} {T p : Nat} {ms : List Tr} (hn : 100 ≤ n) (hi : i 8 = nI T) (hT : T ≤ g 0) (hT0 : 1 ≤ T ∧ sA (a 0) T = 0) (h1 : T + ms.length + 1 ≤ 340000) (h3 : 16384 ≤ g 0) (h4 : g 0 ≤ 340000) (hc : ms.length ≤ 600) (hs : tSz (tL ms) < 131072 ∧ tDp (tL ms) ≤ 620 ∧ tSl (tL ms) ≤ 8000) (hp : p + ms.length ≤ 600) (hr : ∀ k (h : k < ms.length), cV (a 0) T (ms[k]'h) none (a 32 (p + k))) : ∀ (m q f : Nat), ms.length = q + m → m < f → ∃ f9 g' k, m_Heap_newListOf_a32_b25 n f i a g (nI p) (nI ms.length) (nI (1 + ((ms.take q).map tSz).sum)) (nI q) = some (upd i 8 (nI (T + 1 + ms.length)), updA a 0 f9, g', k, nI (4 * T + 1)) ∧ (∀ x, x < T → f9 x = a 0 x) ∧ cV f9 (T + 1 + ms.length) (tL ms) none (nI (4 * T + 1)) ∧ (T + 1 + ms.length ≤ g' 0 ∧ sA f9 (T + 1 + ms.length) = 0) ∧ hGrow g g' k := by
  intro m
  induction m with
  | zero =>
    intro q f e hf
    obtain ⟨f, rfl⟩ : ∃ f', f = f' + 1 := ⟨f - 1, by omega⟩
    obtain ⟨f1, g', k, e1, hf1, hf2, h5, h6⟩ := h_newList (n := n) (a := a) (c := ms.length) (s := tSz (tL ms)) hi hT hT0 (by omega) h3 h4 (by omega) hs.1
    have h8 := h6.2.1
    have es : 1 + ((ms.take q).map tSz).sum = tSz (tL ms) := by rw [List.take_of_length_le (by omega), tSz_tL]
    have e2 : ∀ k, va_cpy (a 32) f1 p (T + 1) ms.length k = if T + 1 ≤ k ∧ k < T + 1 + ms.length then a 32 (p + (k - (T + 1))) else f1 k := fun k => rfl
    refine ⟨va_cpy (a 32) f1 p (T + 1) ms.length, g', k, ?_, ?_, ?_, ⟨h5.1, ?_⟩, h6⟩
    · rw [m_Heap_newListOf_a32_b25, es]
      have eq : q = ms.length := by omega
      subst eq
      simp (disch := omega) only [ob_s, ob0_s, ob1_s, i32_lit, ile_p, ile_n, ilt_p, ilt_n, ieq_p, ieq_n, ck_n, cl_n, sub_n, nI_add, sh_w, sh_l, an3_w, an3_l, an1_w, an1_l, hN_1, hN_3w, hN_3l, if_true, if_false, e1]
      refine (obG_s (k' := (0, 0)) ?_).trans (by rfl)
      have ne : nI (4 * T + 1) ≠ -nI 2147483648 := by
        intro e
        have := congrArg Int32.toInt e
        rw [nI_toInt (by omega)] at this
        have e9 : (-nI 2147483648).toInt = -2147483648 := by decide
        omega
      simp (disch := omega) only [ob_s, ob0_s, ob1_s, i32_lit, ile_p, ile_n, ilt_p, ilt_n, ieq_p, ieq_n, ck_n, cl_n, sub_n, nI_add, sh_w, sh_l, an3_w, an3_l, an1_w, an1_l, hN_1, hN_3w, hN_3l, if_true, if_false, ne, cy_n]
      rw [updA_at, updA_updA, updA_ne (by decide)]
    · intro x hx
      rw [e2, if_neg (by omega), hf1 x hx]
    · refine cV_tL.mpr ⟨T, rfl, ⟨⟨hT0.1, ?_⟩, by omega, hc, hs, ?_⟩, fun k hk => ?_⟩
      · rw [sA_congr (f := a 0) T (fun x hx => by rw [e2, if_neg (by omega), hf1 x hx])]
        exact hT0.2
      · rw [e2, if_neg (by omega), hf2]
      · rw [e2, if_pos (by omega), show p + (T + 1 + k - (T + 1)) = p + k by omega]
        refine cV_up (hr k hk) (by omega) (fun x hx => ?_)
        rw [e2, if_neg (by omega), hf1 x hx]
    · refine sA_list_end (s := tSz (tL ms)) ⟨hT0.1, ?_⟩ (by rw [e2, if_neg (by omega), hf2]) (by omega) hs.1
      rw [sA_congr (f := a 0) T (fun x hx => by rw [e2, if_neg (by omega), hf1 x hx])]
      exact hT0.2
  | succ m ih =>
    intro q f e hf
    obtain ⟨f, rfl⟩ : ∃ f', f = f' + 1 := ⟨f - 1, by omega⟩
    rw [m_Heap_newListOf_a32_b25]
    have hq : q < ms.length := by omega
    have es := h_size (n := n) (i := i) hT h4 hn (hr q hq)
    have et : (ms.take (q + 1)).map tSz = (ms.take q).map tSz ++ [tSz ms[q]] := by
      rw [List.take_add_one, List.getElem?_eq_getElem hq, List.map_append]
      rfl
    have e9 : 1 + ((ms.take q).map tSz).sum + tSz ms[q] = 1 + ((ms.take (q + 1)).map tSz).sum := by
      rw [et, List.sum_append]
      simp
      omega
    simp (disch := omega) only [ob_s, ob0_s, ob1_s, i32_lit, ile_p, ile_n, ilt_p, ilt_n, ieq_p, ieq_n, ck_n, cl_n, sub_n, nI_add, sh_w, sh_l, an3_w, an3_l, an1_w, an1_l, hN_1, hN_3w, hN_3l, if_true, if_false, es, e9]
    exact ih (q + 1) f (by omega) (by omega)
theorem h_newListOf_a32 {n : Nat} {g : Nat → Nat} {i : Nat → Int32} {a : Nat → Nat → Int32} {T p : Nat} {ms : List Tr} (hn : 10000 ≤ n) (hi : i 8 = nI T) (hT : T ≤ g 0) (hT0 : 1 ≤ T ∧ sA (a 0) T = 0) (h1 : T + ms.length + 1 ≤ 340000) (h3 : 16384 ≤ g 0) (h4 : g 0 ≤ 340000) (hc : ms.length ≤ 600) (hs : tSz (tL ms) < 131072 ∧ tDp (tL ms) ≤ 620 ∧ tSl (tL ms) ≤ 8000) (hp : p + ms.length ≤ 600) (hr : ∀ k (h : k < ms.length), cV (a 0) T (ms[k]'h) none (a 32 (p + k))) : ∃ f9 g' k, m_Heap_newListOf_a32 n g i a (nI p) (nI ms.length) = some (upd i 8 (nI (T + 1 + ms.length)), updA a 0 f9, g', k, nI (4 * T + 1)) ∧ (∀ x, x < T → f9 x = a 0 x) ∧ cV f9 (T + 1 + ms.length) (tL ms) none (nI (4 * T + 1)) ∧ (T + 1 + ms.length ≤ g' 0 ∧ sA f9 (T + 1 + ms.length) = 0) ∧ hGrow g g' k := by
  unfold m_Heap_newListOf_a32
  have h := h_newListOf_a32_b (n := n) (by omega) hi hT hT0 h1 h3 h4 hc hs hp hr ms.length 0 n (by omega) (by omega)
  simp (disch := omega) only [ob_s, ob0_s, ob1_s, i32_lit, ile_p, ile_n, ilt_p, ilt_n, ieq_p, ieq_n, ck_n, cl_n, sub_n, nI_add, sh_w, sh_l, an3_w, an3_l, an1_w, an1_l, hN_1, hN_3w, hN_3l, if_true, if_false]
  exact h
/-- a list of members that stand in a row -/
theorem h_newListOf_a54_b {n : Nat} {g : Nat → Nat} {i : Nat → Int32} {a : Nat → Nat → Int32} {T p : Nat} {ms : List Tr} (hn : 100 ≤ n) (hi : i 8 = nI T) (hT : T ≤ g 0) (hT0 : 1 ≤ T ∧ sA (a 0) T = 0) (h1 : T + ms.length + 1 ≤ 340000) (h3 : 16384 ≤ g 0) (h4 : g 0 ≤ 340000) (hc : ms.length ≤ 600) (hs : tSz (tL ms) < 131072 ∧ tDp (tL ms) ≤ 620 ∧ tSl (tL ms) ≤ 8000) (hp : p + ms.length ≤ 32000) (hr : ∀ k (h : k < ms.length), cV (a 0) T (ms[k]'h) none (a 54 (p + k))) : ∀ (m q f : Nat), ms.length = q + m → m < f → ∃ f9 g' k, m_Heap_newListOf_a54_b25 n f i a g (nI p) (nI ms.length) (nI (1 + ((ms.take q).map tSz).sum)) (nI q) = some (upd i 8 (nI (T + 1 + ms.length)), updA a 0 f9, g', k, nI (4 * T + 1)) ∧ (∀ x, x < T → f9 x = a 0 x) ∧ cV f9 (T + 1 + ms.length) (tL ms) none (nI (4 * T + 1)) ∧ (T + 1 + ms.length ≤ g' 0 ∧ sA f9 (T + 1 + ms.length) = 0) ∧ hGrow g g' k := by
  intro m
  induction m with
  | zero =>
    intro q f e hf
    obtain ⟨f, rfl⟩ : ∃ f', f = f' + 1 := ⟨f - 1, by omega⟩
    obtain ⟨f1, g', k, e1, hf1, hf2, h5, h6⟩ := h_newList (n := n) (a := a) (c := ms.length) (s := tSz (tL ms)) hi hT hT0 (by omega) h3 h4 (by omega) hs.1
    have h8 := h6.2.1
    have es : 1 + ((ms.take q).map tSz).sum = tSz (tL ms) := by rw [List.take_of_length_le (by omega), tSz_tL]
    have e2 : ∀ k, va_cpy (a 54) f1 p (T + 1) ms.length k = if T + 1 ≤ k ∧ k < T + 1 + ms.length then a 54 (p + (k - (T + 1))) else f1 k := fun k => rfl
    refine ⟨va_cpy (a 54) f1 p (T + 1) ms.length, g', k, ?_, ?_, ?_, ⟨h5.1, ?_⟩, h6⟩
    · rw [m_Heap_newListOf_a54_b25, es]
      have eq : q = ms.length := by omega
      subst eq
      simp (disch := omega) only [ob_s, ob0_s, ob1_s, i32_lit, ile_p, ile_n, ilt_p, ilt_n, ieq_p, ieq_n, ck_n, cl_n, sub_n, nI_add, sh_w, sh_l, an3_w, an3_l, an1_w, an1_l, hN_1, hN_3w, hN_3l, if_true, if_false, e1]
      refine (obG_s (k' := (0, 0)) ?_).trans (by rfl)
      have ne : nI (4 * T + 1) ≠ -nI 2147483648 := by
        intro e
        have := congrArg Int32.toInt e
        rw [nI_toInt (by omega)] at this
        have e9 : (-nI 2147483648).toInt = -2147483648 := by decide
        omega
      simp (disch := omega) only [ob_s, ob0_s, ob1_s, i32_lit, ile_p, ile_n, ilt_p, ilt_n, ieq_p, ieq_n, ck_n, cl_n, sub_n, nI_add, sh_w, sh_l, an3_w, an3_l, an1_w, an1_l, hN_1, hN_3w, hN_3l, if_true, if_false, ne, cy_n]
      rw [updA_at, updA_updA, updA_ne (by decide)]
    · intro x hx
      rw [e2, if_neg (by omega), hf1 x hx]
    · refine cV_tL.mpr ⟨T, rfl, ⟨⟨hT0.1, ?_⟩, by omega, hc, hs, ?_⟩, fun k hk => ?_⟩
      · rw [sA_congr (f := a 0) T (fun x hx => by rw [e2, if_neg (by omega), hf1 x hx])]
        exact hT0.2
      · rw [e2, if_neg (by omega), hf2]
      · rw [e2, if_pos (by omega), show p + (T + 1 + k - (T + 1)) = p + k by omega]
        refine cV_up (hr k hk) (by omega) (fun x hx => ?_)
        rw [e2, if_neg (by omega), hf1 x hx]
    · refine sA_list_end (s := tSz (tL ms)) ⟨hT0.1, ?_⟩ (by rw [e2, if_neg (by omega), hf2]) (by omega) hs.1
      rw [sA_congr (f := a 0) T (fun x hx => by rw [e2, if_neg (by omega), hf1 x hx])]
      exact hT0.2
  | succ m ih =>
    intro q f e hf
    obtain ⟨f, rfl⟩ : ∃ f', f = f' + 1 := ⟨f - 1, by omega⟩
    rw [m_Heap_newListOf_a54_b25]
    have hq : q < ms.length := by omega
    have es := h_size (n := n) (i := i) hT h4 hn (hr q hq)
    have et : (ms.take (q + 1)).map tSz = (ms.take q).map tSz ++ [tSz ms[q]] := by
      rw [List.take_add_one, List.getElem?_eq_getElem hq, List.map_append]
      rfl
    have e9 : 1 + ((ms.take q).map tSz).sum + tSz ms[q] = 1 + ((ms.take (q + 1)).map tSz).sum := by
      rw [et, List.sum_append]
      simp
      omega
    simp (disch := omega) only [ob_s, ob0_s, ob1_s, i32_lit, ile_p, ile_n, ilt_p, ilt_n, ieq_p, ieq_n, ck_n, cl_n, sub_n, nI_add, sh_w, sh_l, an3_w, an3_l, an1_w, an1_l, hN_1, hN_3w, hN_3l, if_true, if_false, es, e9]
    exact ih (q + 1) f (by omega) (by omega)
theorem h_newListOf_a54 {n : Nat} {g : Nat → Nat} {i : Nat → Int32} {a : Nat → Nat → Int32} {T p : Nat} {ms : List Tr} (hn : 10000 ≤ n) (hi : i 8 = nI T) (hT : T ≤ g 0) (hT0 : 1 ≤ T ∧ sA (a 0) T = 0) (h1 : T + ms.length + 1 ≤ 340000) (h3 : 16384 ≤ g 0) (h4 : g 0 ≤ 340000) (hc : ms.length ≤ 600) (hs : tSz (tL ms) < 131072 ∧ tDp (tL ms) ≤ 620 ∧ tSl (tL ms) ≤ 8000) (hp : p + ms.length ≤ 32000) (hr : ∀ k (h : k < ms.length), cV (a 0) T (ms[k]'h) none (a 54 (p + k))) : ∃ f9 g' k, m_Heap_newListOf_a54 n g i a (nI p) (nI ms.length) = some (upd i 8 (nI (T + 1 + ms.length)), updA a 0 f9, g', k, nI (4 * T + 1)) ∧ (∀ x, x < T → f9 x = a 0 x) ∧ cV f9 (T + 1 + ms.length) (tL ms) none (nI (4 * T + 1)) ∧ (T + 1 + ms.length ≤ g' 0 ∧ sA f9 (T + 1 + ms.length) = 0) ∧ hGrow g g' k := by
  unfold m_Heap_newListOf_a54
  have h := h_newListOf_a54_b (n := n) (by omega) hi hT hT0 h1 h3 h4 hc hs hp hr ms.length 0 n (by omega) (by omega)
  simp (disch := omega) only [ob_s, ob0_s, ob1_s, i32_lit, ile_p, ile_n, ilt_p, ilt_n, ieq_p, ieq_n, ck_n, cl_n, sub_n, nI_add, sh_w, sh_l, an3_w, an3_l, an1_w, an1_l, hN_1, hN_3w, hN_3l, if_true, if_false]
  exact h

