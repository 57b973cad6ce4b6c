/-! a value as it is shown -/
def oF (i : Nat → Int32) (a : Nat → Nat → Int32) (i' : Nat → Int32) (a' : Nat → Nat → Int32) : Prop := (∀ q, q ≠ 23 → i' q = i q) ∧ (∀ q, q ≠ 28 → q ≠ 29 → q ≠ 30 → a' q = a q)
theorem oF_refl (i : Nat → Int32) (a : Nat → Nat → Int32) : oF i a i a := ⟨fun _ _ => rfl, fun _ _ _ _ => rfl⟩
theorem oF_trans {i i' i2 : Nat → Int32} {a a' a2 : Nat → Nat → Int32} (h : oF i a i' a') (h' : oF i' a' i2 a2) : oF i a i2 a2 := ⟨fun q hq => (h'.1 q hq).trans (h.1 q hq), fun q h1 h2 h3 => (h'.2 q h1 h2 h3).trans (h.2 q h1 h2 h3)⟩
theorem CI_oF {g : Nat → Nat} {i i' : Nat → Int32} {a a' : Nat → Nat → Int32} {T : Nat} {G : GS} {N : LN} {F : List Fr} {L : List Lv} (h : CI g i a T G N F L) (ho : oF i a i' a') : CI g i' a' T G N F L := by
  obtain ⟨hi, ha⟩ := ho
  have A : ∀ q, q ≠ 28 → q ≠ 29 → q ≠ 30 → a' q = a q := ha
  unfold CI cGen cWorld cNum cLev lexOk at *
  rw [hi 8 (by decide), hi 4 (by decide), hi 5 (by decide), hi 6 (by decide), hi 12 (by decide), hi 15 (by decide), hi 17 (by decide), hi 19 (by decide), hi 20 (by decide), hi 45 (by decide), hi 35 (by decide), hi 36 (by decide), hi 37 (by decide), hi 38 (by decide), hi 39 (by decide), hi 13 (by decide), hi 40 (by decide), hi 41 (by decide), hi 42 (by decide)]
  rw [A 0 (by decide) (by decide) (by decide), A 5 (by decide) (by decide) (by decide), A 6 (by decide) (by decide) (by decide), A 7 (by decide) (by decide) (by decide), A 8 (by decide) (by decide) (by decide), A 9 (by decide) (by decide) (by decide), A 10 (by decide) (by decide) (by decide), A 11 (by decide) (by decide) (by decide), A 12 (by decide) (by decide) (by decide), A 13 (by decide) (by decide) (by decide), A 15 (by decide) (by decide) (by decide), A 16 (by decide) (by decide) (by decide), A 17 (by decide) (by decide) (by decide), A 20 (by decide) (by decide) (by decide), A 21 (by decide) (by decide) (by decide), A 26 (by decide) (by decide) (by decide), A 37 (by decide) (by decide) (by decide), A 38 (by decide) (by decide) (by decide), A 39 (by decide) (by decide) (by decide), A 40 (by decide) (by decide) (by decide), A 41 (by decide) (by decide) (by decide), A 42 (by decide) (by decide) (by decide), A 43 (by decide) (by decide) (by decide), A 44 (by decide) (by decide) (by decide), A 45 (by decide) (by decide) (by decide), A 46 (by decide) (by decide) (by decide), A 47 (by decide) (by decide) (by decide), A 48 (by decide) (by decide) (by decide), A 49 (by decide) (by decide) (by decide), A 50 (by decide) (by decide) (by decide), A 51 (by decide) (by decide) (by decide), A 52 (by decide) (by decide) (by decide), A 53 (by decide) (by decide) (by decide), A 54 (by decide) (by decide) (by decide)]
  obtain ⟨g1, ⟨b1, b2, b3, b4, b5, b6, b7, b8⟩, g3⟩ := h
  exact ⟨g1, ⟨b1, b2, b3, b4, b5, b6, b7, kEx_a (kEx_i b8 (fun q hq => hi q (by revert hq; revert q; decide))) (fun q hq => A q (by revert hq; revert q; decide) (by revert hq; revert q; decide) (by revert hq; revert q; decide))⟩, g3⟩
def TX (i : Nat → Int32) (a : Nat → Nat → Int32) (l : List Nat) : Prop := i 23 = nI l.length ∧ l.length ≤ 8192 ∧ ∀ k (h : k < l.length), a 28 k = nI (l[k]'h)
theorem tx_snoc {f : Nat → Int32} {l : List Nat} {c : Nat} (h : ∀ k (h : k < l.length), f k = nI (l[k]'h)) : ∀ k (h : k < (l ++ [c]).length), upd f l.length (nI c) k = nI ((l ++ [c])[k]'h) := by
  intro k hk
  rw [List.length_append, List.length_singleton] at hk
  rcases Nat.lt_or_ge k l.length with h9 | h9
  · rw [upd_ne (by omega), List.getElem_append_left h9]
    exact h k h9
  · obtain rfl : k = l.length := by omega
    rw [upd_at, List.getElem_append_right (Nat.le_refl _)]
    simp
theorem h_add {n : Nat} {g : Nat → Nat} {i : Nat → Int32} {a : Nat → Nat → Int32} {l : List Nat} {c : Nat} (h : TX i a l) (hl : l.length < 8192) : m_Output_add n g i a (nI c) = some (upd i 23 (nI (l.length + 1)), sv a 28 l.length (nI c), nI 0) ∧ TX (upd i 23 (nI (l.length + 1))) (sv a 28 l.length (nI c)) (l ++ [c]) ∧ oF i a (upd i 23 (nI (l.length + 1))) (sv a 28 l.length (nI c)) := by
  obtain ⟨h1, h2, h3⟩ := h
  refine ⟨?_, ⟨?_, ?_, tx_snoc h3⟩, ⟨fun q hq => upd_ne hq, fun q h1 h2 h3 => ?_⟩⟩
  · unfold m_Output_add
    simp (disch := omega) only [ob_s, ob0_s, ob1_s, i32_lit, ile_p, ile_n, ilt_p, ilt_n, ieq_p, ieq_n, ck_n, cl_n, sub_n, nI_add, sh_w, sh_l, an3_w, an3_l, an1_w, an1_l, hN_1, hN_3w, hN_3l, if_true, if_false, h1]
  · rw [List.length_append]; rfl
  · rw [List.length_append, List.length_singleton]; omega
  · unfold sv
    rw [updA_ne h1]
theorem h_copy_b {n : Nat} {g : Nat → Nat} {i : Nat → Int32} {T : Nat} (hg : g 0 ≤ 340000) {l0 : List Nat} : ∀ (w : List Nat) (p q c : Nat) (a : Nat → Nat → Int32), inRow (a 0) (g 0) p w → w.length < q → l0.length + c + w.length ≤ 8192 → (∃ pre : List Nat, pre.length = c ∧ ∀ k (h : k < (l0 ++ pre).length), a 28 k = nI ((l0 ++ pre)[k]'h)) → ∀ pre : List Nat, pre.length = c → (∀ k (h : k < (l0 ++ pre).length), a 28 k = nI ((l0 ++ pre)[k]'h)) → ∃ a', m_Heap_copyLetters_a28_b23 n g q i a (nI l0.length) (nI c) (nI p) = some (i, a', nI (c + w.length)) ∧ (∀ k (h : k < (l0 ++ (pre ++ w)).length), a' 28 k = nI ((l0 ++ (pre ++ w))[k]'h)) ∧ (∀ z, z ≠ 28 → a' z = a z) := by
  intro w
  induction w with
  | nil =>
    intro p q c a hr hq hb _ pre hp hpre
    obtain ⟨q, rfl⟩ : ∃ q', q = q' + 1 := ⟨q - 1, by omega⟩
    obtain ⟨q4, q5, q6, q7⟩ := hr
    have e : a 0 p = nI 0 := q7
    simp only [List.length_nil] at q4
    refine ⟨a, ?_, by rw [List.append_nil]; exact hpre, fun _ _ => rfl⟩
    rw [m_Heap_copyLetters_a28_b23]
    simp (disch := omega) only [ob_s, ob0_s, ob1_s, i32_lit, ile_p, ile_n, ilt_p, ilt_n, ieq_p, ieq_n, ck_n, cl_n, sub_n, nI_add, sh_w, sh_l, an3_w, an3_l, an1_w, an1_l, hN_1, hN_3w, hN_3l, if_true, if_false, e, List.length_nil, Nat.add_zero]
  | cons x w ih =>
    intro p q c a hr hq hb _ pre hp hpre
    obtain ⟨q, rfl⟩ : ∃ q', q = q' + 1 := ⟨q - 1, by omega⟩
    obtain ⟨q4, q5, q6, q7⟩ := hr
    have e : a 0 p = nI x := q6 0 (by simp)
    have e2 := q5 x (by simp)
    simp only [List.length_cons] at q4 q7 hq hb
    have hlen : (l0 ++ pre).length = l0.length + c := by rw [List.length_append, hp]
    have hsn := tx_snoc (c := x) hpre
    rw [hlen, List.append_assoc] at hsn
    have hr2 : inRow (sv a 28 (l0.length + c) (nI x) 0) (g 0) (p + 1) w := by
      refine ⟨by omega, fun y hy => q5 y (List.mem_cons_of_mem _ hy), fun k hk => ?_, ?_⟩
      · have := q6 (k + 1) (by simp; omega)
        rw [show p + 1 + k = p + (k + 1) by omega]
        exact this
      · rw [← q7]
        show a 0 _ = a 0 _
        congr 1; omega
    obtain ⟨a', z1, z2, z3⟩ := ih (p + 1) q (c + 1) (sv a 28 (l0.length + c) (nI x)) hr2 (by omega) (by omega) ⟨pre ++ [x], by rw [List.length_append, hp]; rfl, hsn⟩ (pre ++ [x]) (by rw [List.length_append, hp]; rfl) hsn
    rw [List.append_assoc, List.singleton_append] at z2
    refine ⟨a', ?_, z2, fun z hz => by rw [z3 z hz]; unfold sv; rw [updA_ne hz]⟩
    rw [m_Heap_copyLetters_a28_b23]
    simp (disch := omega) only [ob_s, ob0_s, ob1_s, i32_lit, ile_p, ile_n, ilt_p, ilt_n, ieq_p, ieq_n, ck_n, cl_n, sub_n, nI_add, sh_w, sh_l, an3_w, an3_l, an1_w, an1_l, hN_1, hN_3w, hN_3l, if_true, if_false, e]
    rw [z1]
    simp only [List.length_cons]
    rw [show c + 1 + w.length = c + (w.length + 1) by omega]
/-- a word's letters, behind what is there -/
theorem h_addWord {n : Nat} {g : Nat → Nat} {i : Nat → Int32} {a : Nat → Nat → Int32} {T : Nat} {l w : List Nat} {x : Int32} (hn : 1000 ≤ n) (ht : T ≤ g 0) (hg : g 0 ≤ 340000) (h : TX i a l) (hw : cV (a 0) T (tW w) none x) (hl : l.length + w.length ≤ 8192) : ∃ i' a', m_Output_addPlain n g i a x = some (i', a', nI 0) ∧ TX i' a' (l ++ w) ∧ oF i a i' a' ∧ a' 29 = a 29 ∧ a' 30 = a 30 := by
  obtain ⟨h1, h2, h3⟩ := h
  obtain ⟨kw, _, _⟩ := cV_kinds (by omega) hw n
  rw [isW_tW] at kw
  obtain ⟨p, rfl, hwd⟩ := cV_tW.mp hw
  have hp1 := hwd.1
  have hp2 := hwd.2.2.2.1
  have hp3 := hwd.2.2.1
  obtain ⟨a', z1, z2, z3⟩ := h_copy_b (n := n) (g := g) (i := i) (T := T) hg (l0 := l) w p n 0 a (cWd_row hwd ht) (by omega) (by omega) ⟨[], rfl, by rw [List.append_nil]; exact h3⟩ [] rfl (by rw [List.append_nil]; exact h3)
  rw [List.nil_append] at z2
  refine ⟨upd i 23 (nI (l.length + w.length)), a', ?_, ⟨by rw [List.length_append]; rfl, by rw [List.length_append]; exact hl, z2⟩, ⟨fun q hq => upd_ne hq, fun q h1 _ _ => z3 q h1⟩, z3 29 (by decide), z3 30 (by decide)⟩
  rw [Nat.zero_add] at z1
  unfold m_Output_addPlain m_Heap_copyLetters_a28
  simp (disch := omega) only [ob_s, ob0_s, ob1_s, i32_lit, ile_p, ile_n, ilt_p, ilt_n, ieq_p, ieq_n, ck_n, cl_n, sub_n, nI_add, sh_w, sh_l, an3_w, an3_l, an1_w, an1_l, hN_1, hN_3w, hN_3l, if_true, if_false, kw, b1_t, h1, z1]
theorem h_dig_b {n : Nat} {g : Nat → Nat} {v : Nat} (hv : v ≤ 1000000000) : ∀ (k q c : Nat) (i : Nat → Int32) (a : Nat → Nat → Int32) (l : List Nat), TX i a l → k ≤ 9 → k + 1 < q → c + k ≤ 9 → l.length + k + 1 ≤ 8192 → ∃ i' a', m_Output_addPlain_b84 n g q i a (nI v) (nI (10 ^ k)) (nI c) = some (i', a', nI 0) ∧ TX i' a' (l ++ aDig v k) ∧ oF i a i' a' ∧ a' 29 = a 29 ∧ a' 30 = a 30 := by
  intro k
  induction k with
  | zero =>
    intro q c i a l h hk hq hc hl
    obtain ⟨q, rfl⟩ : ∃ q', q = q' + 1 := ⟨q - 1, by omega⟩
    obtain ⟨q, rfl⟩ : ∃ q', q = q' + 1 := ⟨q - 1, by omega⟩
    obtain ⟨e1, e2, e3⟩ := h_add (n := n) (g := g) (c := 48 + v % 10) h (by omega)
    refine ⟨_, _, ?_, e2, e3, rfl, rfl⟩
    rw [m_Output_addPlain_b84, if_neg (show ¬ (10 : Int32) ≤ nI c from nI_ge (b := 10) (by omega) (by decide)), if_neg (by decide)]
    unfold cz
    rw [if_neg (by decide), show nI v / nI (10 ^ 0) = nI v by rw [pk_div (by omega) (by decide) (by decide)]; congr 1; omega, show nI v - nI v / 10 * 10 = nI (v % 10) from pk_rem (by omega) (by decide) (by decide), show (48 : Int32) + nI (v % 10) = nI (48 + v % 10) from nI_add _ _, e1, ob_s, ob1_s, ob1_s, m_Output_addPlain_b84]
    rw [show nI (10 ^ 0) / 10 = nI 0 from by decide, show nI c + 1 = nI (c + 1) from nI_1 c]
    rcases Nat.lt_or_ge (c + 1) 10 with h9 | h9
    · rw [if_neg (show ¬ (10 : Int32) ≤ nI (c + 1) from nI_ge (b := 10) h9 (by decide)), if_pos (by decide)]
      rfl
    · rw [if_pos (show (10 : Int32) ≤ nI (c + 1) from nI_le (a := 10) h9 (by omega))]
      rfl
  | succ k ih =>
    intro q c i a l h hk hq hc hl
    obtain ⟨q, rfl⟩ : ∃ q', q = q' + 1 := ⟨q - 1, by omega⟩
    have hp : 0 < 10 ^ (k + 1) := Nat.pow_pos (by decide)
    have hp9 : 10 ^ (k + 1) ≤ 10 ^ 9 := Nat.pow_le_pow_right (by decide) hk
    obtain ⟨e1, e2, e3⟩ := h_add (n := n) (g := g) (c := 48 + v / 10 ^ (k + 1) % 10) h (by omega)
    have hdv : v / 10 ^ (k + 1) ≤ v := Nat.div_le_self _ _
    obtain ⟨i', a', z1, z2, z3, z4, z5⟩ := ih q (c + 1) _ _ _ e2 (by omega) (by omega) (by omega) (by rw [List.length_append, List.length_singleton]; omega)
    rw [List.append_assoc] at z2
    refine ⟨i', a', ?_, z2, oF_trans e3 z3, z4, z5⟩
    have hne : ¬ nI (10 ^ (k + 1)) = 0 := nI_ne0 hp (by omega)
    rw [m_Output_addPlain_b84, if_neg (show ¬ (10 : Int32) ≤ nI c from nI_ge (b := 10) (by omega) (by decide)), if_neg (show ¬ nI (10 ^ (k + 1)) ≤ (0 : Int32) from nI_nle hp (by omega))]
    unfold cz
    rw [if_neg hne, pk_div (by omega) hp (by omega), show nI (v / 10 ^ (k + 1)) - nI (v / 10 ^ (k + 1)) / 10 * 10 = nI (v / 10 ^ (k + 1) % 10) from pk_rem (by omega) (by decide) (by decide), show (48 : Int32) + nI (v / 10 ^ (k + 1) % 10) = nI (48 + v / 10 ^ (k + 1) % 10) from nI_add _ _, e1, ob_s, ob1_s, ob1_s, show nI (10 ^ (k + 1)) / 10 = nI (10 ^ k) by rw [show (10 : Int32) = nI 10 from rfl, pk_div (by omega) (by decide) (by decide), Nat.pow_succ, Nat.mul_div_cancel _ (by decide)], show nI c + 1 = nI (c + 1) from nI_1 c]
    exact z1
theorem unit_step {v c : Nat} (hv : v ≤ 1000000000) (hc : c ≤ 9) : (10 ^ c ≤ v / 10 ∧ c < 9 ↔ c < aUnit v) := by
  rcases (by omega : c = 0 ∨ c = 1 ∨ c = 2 ∨ c = 3 ∨ c = 4 ∨ c = 5 ∨ c = 6 ∨ c = 7 ∨ c = 8 ∨ c = 9) with rfl | rfl | rfl | rfl | rfl | rfl | rfl | rfl | rfl | rfl
  all_goals
    unfold aUnit
    repeat' split
    all_goals omega
theorem h_unit_b {n : Nat} {g : Nat → Nat} {i : Nat → Int32} {a : Nat → Nat → Int32} {v : Nat} (hv : v ≤ 1000000000) : ∀ (m c q : Nat), aUnit v = c + m → m < q → m_Output_addPlain_b55 n g q i a (nI v) (nI (10 ^ c)) (nI c) = m_Output_addPlain_b81 n g i a (nI v) (nI (10 ^ aUnit v)) := by
  have h9 := aUnit_le v
  intro m
  induction m with
  | zero =>
    intro c q e hq
    obtain ⟨q, rfl⟩ : ∃ q', q = q' + 1 := ⟨q - 1, by omega⟩
    have hc : c = aUnit v := by omega
    have hs : ¬ (10 ^ c ≤ v / 10 ∧ c < 9) := fun e => absurd ((unit_step (v := v) (c := c) hv (by omega)).mp e) (by omega)
    have hp9 : 10 ^ c ≤ 10 ^ 9 := Nat.pow_le_pow_right (by decide) (by omega)
    rw [m_Output_addPlain_b55, ← hc]
    rcases Nat.lt_or_ge c 9 with h8 | h8
    · rw [if_neg (show ¬ (9 : Int32) ≤ nI c from nI_ge (b := 9) h8 (by decide)), show nI v / 10 = nI (v / 10) from pk_div (by omega) (by decide) (by decide), if_pos (nI_lt (by omega) (by omega))]
    · rw [if_pos (show (9 : Int32) ≤ nI c from nI_le (a := 9) h8 (by omega))]
  | succ m ih =>
    intro c q e hq
    obtain ⟨q, rfl⟩ : ∃ q', q = q' + 1 := ⟨q - 1, by omega⟩
    obtain ⟨hs1, hs2⟩ := (unit_step (v := v) (c := c) hv (by omega)).mpr (by omega)
    have hp9 : 10 ^ c ≤ 10 ^ 9 := Nat.pow_le_pow_right (by decide) (by omega)
    rw [m_Output_addPlain_b55, if_neg (show ¬ (9 : Int32) ≤ nI c from nI_ge (b := 9) hs2 (by decide)), show nI v / 10 = nI (v / 10) from pk_div (by omega) (by decide) (by decide), if_neg (nI_nlt hs1 (by omega)), ob1_s, ob1_s, show nI (10 ^ c) * 10 = nI (10 ^ (c + 1)) by rw [show (10 : Int32) = nI 10 from rfl, pk_mul, Nat.pow_succ], show nI c + 1 = nI (c + 1) from nI_1 c]
    exact ih (c + 1) q (by omega) (by omega)
theorem h_addNat {n : Nat} {g : Nat → Nat} {i : Nat → Int32} {a : Nat → Nat → Int32} {l : List Nat} {v : Nat} (hn : 1000 ≤ n) (hv : v ≤ 1000000000) (h : TX i a l) (hl : l.length + 10 ≤ 8192) : ∃ i' a', m_Output_addPlain_b50 n g i a (nI v) = some (i', a', nI 0) ∧ TX i' a' (l ++ aDig v (aUnit v)) ∧ oF i a i' a' ∧ a' 29 = a 29 ∧ a' 30 = a 30 := by
  have h9 := aUnit_le v
  obtain ⟨i', a', z1, z2⟩ := h_dig_b (n := n) (g := g) hv (aUnit v) n 0 i a l h h9 (by omega) (by omega) (by omega)
  refine ⟨i', a', ?_, z2⟩
  unfold m_Output_addPlain_b50
  rw [show (1 : Int32) = nI (10 ^ 0) from rfl, show (0 : Int32) = nI 0 from rfl, h_unit_b hv (aUnit v) 0 n (by omega) (by omega)]
  unfold m_Output_addPlain_b81
  exact z1
theorem h_addNum {n : Nat} {g : Nat → Nat} {i : Nat → Int32} {a : Nat → Nat → Int32} {l : List Nat} {z : Int} (hn : 1000 ≤ n) (h1 : -1000000000 ≤ z) (h2 : z ≤ 1000000000) (h : TX i a l) (hl : l.length + 11 ≤ 8192) : ∃ i' a', m_Output_addPlain n g i a (hN z) = some (i', a', nI 0) ∧ TX i' a' (l ++ aNumS z) ∧ oF i a i' a' ∧ a' 29 = a 29 ∧ a' 30 = a 30 := by
  have kw : m_Heap_isWord n (hN z) = some (nI 0) := by
    unfold m_Heap_isWord
    simp (disch := omega) only [ob_s, ob0_s, ob1_s, i32_lit, ile_p, ile_n, ilt_p, ilt_n, ieq_p, ieq_n, ck_n, cl_n, sub_n, nI_add, sh_w, sh_l, an3_w, an3_l, an1_w, an1_l, hN_1, hN_3w, hN_3l, if_true, if_false]
  unfold m_Output_addPlain aNumS
  rw [kw, ob0_s, if_pos (show nI 0 = (0 : Int32) from rfl), ob1_s, show hN z >>> ((1 : Int32) &&& 31) = Int32.ofInt z from hN_32 h1 h2]
  rcases Classical.em (z < 0) with hz | hz
  · obtain ⟨e1, e2, e3⟩ := h_add (n := n) (g := g) (c := 45) h (by omega)
    obtain ⟨i', a', z1, z2, z3, z4, z5⟩ := h_addNat (n := n) (g := g) (v := z.natAbs) hn (by omega) e2 (by rw [List.length_append, List.length_singleton]; omega)
    rw [List.append_assoc, List.singleton_append] at z2
    refine ⟨i', a', ?_, by rw [if_pos hz]; exact z2, oF_trans e3 z3, z4, z5⟩
    rw [if_neg (by rw [Int32.le_iff_toInt_le, i32_int (by omega) (by omega)]; show ¬ 0 ≤ z; omega)]
    show ob (m_Output_add n g i a (nI 45)) _ = _
    rw [e1, ob_s, ob1_s, show -Int32.ofInt z = nI z.natAbs by rw [← Int32.ofInt_neg, nI_ofInt]; congr 1; omega]
    exact z1
  · obtain ⟨i', a', z1, z2, z3⟩ := h_addNat (n := n) (g := g) (v := z.natAbs) hn (by omega) h (by omega)
    refine ⟨i', a', ?_, by rw [if_neg hz]; exact z2, z3⟩
    rw [if_pos (by rw [Int32.le_iff_toInt_le, i32_int (by omega) (by omega)]; show 0 ≤ z; omega), show Int32.ofInt z = nI z.natAbs by rw [nI_ofInt]; congr 1; omega]
    exact z1
theorem aSh_tW (w : List Nat) (m : Nat) : aSh (tW w) m = w := by
  have : ∀ w : List Nat, ∀ m, aSh (tW w) m = w := by
    intro w
    induction w with
    | nil => intro m; rfl
    | cons c w ih => intro m; show c :: aSh (tW w) 0 = _; rw [ih]
  exact this w m
/-- what is no list -/
theorem h_addFlat {n : Nat} {g : Nat → Nat} {i : Nat → Int32} {a : Nat → Nat → Int32} {T : Nat} {l : List Nat} {v : Tr} {x : Int32} (hn : 1000 ≤ n) (ht : T ≤ g 0) (hg : g 0 ≤ 340000) (h : TX i a l) (hx : cV (a 0) T v none x) (hv : isL v = false) (hl : l.length + (aSh v 0).length + 30 ≤ 8192) : ∃ i' a', m_Output_addPlain n g i a x = some (i', a', nI 0) ∧ TX i' a' (l ++ aSh v 0) ∧ oF i a i' a' ∧ a' 29 = a 29 ∧ a' 30 = a 30 := by
  rcases cV_cases hx with ⟨k, rfl, h1, h2, rfl⟩ | ⟨w, p, rfl, h1, h3⟩ | ⟨ms, p, rfl, _, _, _⟩
  · exact h_addNum hn h1 h2 h (by omega)
  · rw [aSh_tW] at hl ⊢
    exact h_addWord hn ht hg h hx (by omega)
  · rw [isL_tL] at hv; cases hv

