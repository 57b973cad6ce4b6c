/-! the reference shows values -/
def TR (i : Nat → Int32) (a : Nat → Nat → Int32) (l : List Nat) : Prop := i 25 = nI l.length ∧ ∀ k (h : k < l.length), a 24 k = nI (l[k]'h)
def oR (i : Nat → Int32) (a : Nat → Nat → Int32) (i' : Nat → Int32) (a' : Nat → Nat → Int32) : Prop := (∀ q, q ≠ 25 → i' q = i q) ∧ (∀ q, q ≠ 24 → q ≠ 26 → q ≠ 27 → a' q = a q)
theorem oR_refl (i : Nat → Int32) (a : Nat → Nat → Int32) : oR i a i a := ⟨fun _ _ => rfl, fun _ _ _ _ => rfl⟩
theorem oR_trans {i i' i2 : Nat → Int32} {a a' a2 : Nat → Nat → Int32} (h : oR i a i' a') (h' : oR i' a' i2 a2) : oR i a i2 a2 := ⟨fun q hq => (h'.1 q hq).trans (h.1 q hq), fun q h1 h2 h3 => (h'.2 q h1 h2 h3).trans (h.2 q h1 h2 h3)⟩
theorem rV_oR {i i' : Nat → Int32} {a a' : Nat → Nat → Int32} {b : Nat → Nat → Int64} {B : RB4} {t : Tr} {v : Int64} (ho : oR i a i' a') (hB : B.1 ≤ 120000 ∧ B.2.1 ≤ 300000 ∧ B.2.2.1 ≤ 90000 ∧ B.2.2.2 ≤ 90000) (h : rV a b B t none v) : rV a' b B t none v := by
  refine (rV_up (b := b) (b' := b) ⟨⟨Nat.le_refl _, hB.1, Nat.le_refl _, hB.2.1, Nat.le_refl _, hB.2.2.1, Nat.le_refl _, hB.2.2.2⟩, fun x _ => ⟨?_, ?_⟩, fun x _ => ?_, fun x _ => ⟨?_, ?_, ?_⟩, fun _ _ => rfl⟩ t).1 v h
  all_goals rw [ho.2 _ (by decide) (by decide) (by decide)]
def oS (i : Nat → Int32) (a : Nat → Nat → Int32) (i' : Nat → Int32) (a' : Nat → Nat → Int32) : Prop := (∀ q, q ≠ 25 → i' q = i q) ∧ (∀ q, q ≠ 24 → a' q = a q)
theorem oS_refl (i : Nat → Int32) (a : Nat → Nat → Int32) : oS i a i a := ⟨fun _ _ => rfl, fun _ _ => rfl⟩
theorem oS_trans {i i' i2 : Nat → Int32} {a a' a2 : Nat → Nat → Int32} (h : oS i a i' a') (h' : oS i' a' i2 a2) : oS i a i2 a2 := ⟨fun q hq => (h'.1 q hq).trans (h.1 q hq), fun q h1 => (h'.2 q h1).trans (h.2 q h1)⟩
theorem oS_oR {i i' : Nat → Int32} {a a' : Nat → Nat → Int32} (h : oS i a i' a') : oR i a i' a' := ⟨h.1, fun q h1 _ _ => h.2 q h1⟩
set_option maxRecDepth 20000 in
theorem nar8 {c : Nat} (h : c < 128) : vp_nar .byte (nI c).toInt8.toInt32 = nI c := by
  rw [vp_nar_byte]
  have q : ∀ c, c < 128 → (nI c).toInt8.toInt32.toInt8.toInt32 = nI c := by decide +kernel
  exact q c h
theorem r_say {n : Nat} {i : Nat → Int32} {j : Nat → Int64} {a : Nat → Nat → Int32} {b : Nat → Nat → Int64} {l : List Nat} {c : Nat} (h : TR i a l) (hl : l.length < 40000) (hc : c < 128) : m_Model_say n i j a b (nI c) = some (upd i 25 (nI (l.length + 1)), j, sv a 24 l.length (nI c), b, 0) ∧ TR (upd i 25 (nI (l.length + 1))) (sv a 24 l.length (nI c)) (l ++ [c]) ∧ oS i a (upd i 25 (nI (l.length + 1))) (sv a 24 l.length (nI c)) := by
  refine ⟨?_, ⟨?_, ?_⟩, fun q hq => upd_ne hq, fun q h1 => updA_ne h1⟩
  · unfold m_Model_say
    rw [h.1, ck_n (by omega), ob1_s, ob1_s, ob1_s, cl_n (by omega), nar8 hc, show (1 : Int32) = nI 1 from rfl, nI_add]
  · rw [upd_at, List.length_append]; rfl
  · show ∀ k (h : k < (l ++ [c]).length), upd (a 24) l.length (nI c) k = _
    exact tx_snoc h.2
theorem r_dig_b {n : Nat} {j : Nat → Int64} {b : Nat → Nat → Int64} {v : Nat} (hv : v ≤ 1000000000) : ∀ (k q : Nat) (i : Nat → Int32) (a : Nat → Nat → Int32) (l : List Nat), TR i a l → k ≤ 9 → k + 1 < q → l.length + k + 1 ≤ 40000 → ∃ i' a', m_Model_sayNumber_b33 n q i j a b (nI v) (nI (10 ^ k)) = some (i', j, a', b, 0) ∧ TR i' a' (l ++ aDig v k) ∧ oS i a i' a' := by
  intro k
  induction k with
  | zero =>
    intro q i a l h hk hq hl
    obtain ⟨q, rfl⟩ : ∃ q', q = q' + 1 := ⟨q - 1, by omega⟩
    obtain ⟨q, rfl⟩ : ∃ q', q = q' + 1 := ⟨q - 1, by omega⟩
    obtain ⟨e1, e2, e3⟩ := r_say (n := n) (j := j) (b := b) (c := 48 + v % 10) h (by omega) (by omega)
    refine ⟨_, _, ?_, e2, e3⟩
    rw [m_Model_sayNumber_b33, if_neg (by decide)]
    unfold cz
    rw [if_neg (by decide), show nI v / nI (10 ^ 0) = nI v by rw [pk_div (by omega) (by decide) (by decide)]; congr 1; omega, show nI v - nI v / 10 * 10 = nI (v % 10) from pk_rem (by omega) (by decide) (by decide), show (48 : Int32) + nI (v % 10) = nI (48 + v % 10) from nI_add 48 _, e1, om_s, ob1_s, show nI (10 ^ 0) / 10 = nI 0 from by decide, m_Model_sayNumber_b33, if_pos (by decide)]
  | succ k ih =>
    intro q i a l h hk hq hl
    obtain ⟨q, rfl⟩ : ∃ q', q = q' + 1 := ⟨q - 1, by omega⟩
    have hp : 0 < 10 ^ (k + 1) := Nat.pow_pos (by decide)
    have hp9 : 10 ^ (k + 1) ≤ 10 ^ 9 := Nat.pow_le_pow_right (by decide) hk
    have hdv : v / 10 ^ (k + 1) ≤ v := Nat.div_le_self _ _
    obtain ⟨e1, e2, e3⟩ := r_say (n := n) (j := j) (b := b) (c := 48 + v / 10 ^ (k + 1) % 10) h (by omega) (by omega)
    obtain ⟨i', a', z1, z2, z3⟩ := ih q _ _ _ e2 (by omega) (by omega) (by rw [List.length_append, List.length_singleton]; omega)
    rw [List.append_assoc] at z2
    refine ⟨i', a', ?_, z2, oS_trans e3 z3⟩
    have hne : ¬ nI (10 ^ (k + 1)) = 0 := nI_ne0 hp (by omega)
    rw [m_Model_sayNumber_b33, if_neg (show ¬ nI (10 ^ (k + 1)) ≤ (0 : Int32) from nI_nle hp (by omega))]
    unfold cz
    rw [if_neg hne, pk_div (by omega) hp (by omega), show nI (v / 10 ^ (k + 1)) - nI (v / 10 ^ (k + 1)) / 10 * 10 = nI (v / 10 ^ (k + 1) % 10) from pk_rem (by omega) (by decide) (by decide), show (48 : Int32) + nI (v / 10 ^ (k + 1) % 10) = nI (48 + v / 10 ^ (k + 1) % 10) from nI_add 48 _, e1, om_s, ob1_s, show nI (10 ^ (k + 1)) / 10 = nI (10 ^ k) from by rw [show (10 : Int32) = nI 10 from rfl, pk_div (by omega) (by decide) (by decide), Nat.pow_succ, Nat.mul_div_cancel _ (by decide)]]
    exact z1
theorem r_unit_b {n : Nat} {i : Nat → Int32} {j : Nat → Int64} {a : Nat → Nat → Int32} {b : Nat → Nat → Int64} {v : Nat} (hv : v ≤ 1000000000) : ∀ (m c q : Nat), aUnit v = c + m → m < q → m_Model_sayNumber_b17 n q i j a b (nI v) (nI (10 ^ c)) = m_Model_sayNumber_b33 n n i j a b (nI v) (nI (10 ^ aUnit v)) := by
  have h9 := aUnit_le v
  intro m
  induction m with
  | zero =>
    intro c q e hq
    obtain ⟨q, rfl⟩ : ∃ q', q = q' + 1 := ⟨q - 1, by omega⟩
    have hc : c = aUnit v := by omega
    have hs : ¬ (10 ^ c ≤ v / 10 ∧ c < 9) := fun e => absurd ((unit_step (v := v) (c := c) hv (by omega)).mp e) (by omega)
    have hp : 0 < 10 ^ c := Nat.pow_pos (by decide)
    have hp9 : 10 ^ c ≤ 10 ^ 9 := Nat.pow_le_pow_right (by decide) (by omega)
    have hle : v / 10 ^ c ≤ 9 := by
      rcases Nat.lt_or_ge c 9 with h8 | h8
      · have : ¬ 10 ^ c ≤ v / 10 := fun e => hs ⟨e, h8⟩
        rw [Nat.div_le_iff_le_mul_add_pred hp]
        omega
      · have e9 : c = 9 := by omega
        subst e9
        omega
    rw [m_Model_sayNumber_b17]
    unfold cz
    rw [if_neg (nI_ne0 hp (by omega)), pk_div (by omega) hp (by omega), show (9 : Int32) = nI 9 from rfl, ile_p (by omega), ← hc]
  | succ m ih =>
    intro c q e hq
    obtain ⟨q, rfl⟩ : ∃ q', q = q' + 1 := ⟨q - 1, by omega⟩
    obtain ⟨hs1, hs2⟩ := (unit_step (v := v) (c := c) hv (by omega)).mpr (by omega)
    have hp : 0 < 10 ^ c := Nat.pow_pos (by decide)
    have hp9 : 10 ^ c ≤ 10 ^ 9 := Nat.pow_le_pow_right (by decide) (by omega)
    have hp8 : 10 ^ (c + 1) ≤ 10 ^ 9 := Nat.pow_le_pow_right (by decide) (by omega)
    have hdv : v / 10 ^ c ≤ v := Nat.div_le_self _ _
    have hlt : 9 < v / 10 ^ c := by
      have : 10 ≤ v / 10 ^ c := by rw [Nat.le_div_iff_mul_le hp]; omega
      omega
    rw [m_Model_sayNumber_b17]
    unfold cz
    rw [if_neg (nI_ne0 hp (by omega)), pk_div (by omega) hp (by omega), show (9 : Int32) = nI 9 from rfl, ile_n (by omega), ob1_s, show nI (10 ^ c) * 10 = nI (10 ^ (c + 1)) from by rw [show (10 : Int32) = nI 10 from rfl, pk_mul, Nat.pow_succ]]
    exact ih (c + 1) q (by omega) (by omega)
theorem r_sayNumber {n : Nat} {i : Nat → Int32} {j : Nat → Int64} {a : Nat → Nat → Int32} {b : Nat → Nat → Int64} {l : List Nat} {z : Int} (hn : 1000 ≤ n) (h1 : -1000000000 ≤ z) (h2 : z ≤ 1000000000) (h : TR i a l) (hl : l.length + 11 ≤ 40000) : ∃ i' a', m_Model_sayNumber n i j a b (Int32.ofInt z) = some (i', j, a', b, 0) ∧ TR i' a' (l ++ aNumS z) ∧ oS i a i' a' := by
  have hu := aUnit_le z.natAbs
  have ti : (Int32.ofInt z).toInt = z := i32_int (by omega) (by omega)
  have e0 : (0 : Int32).toInt = 0 := rfl
  have key : ∀ (i : Nat → Int32) (a : Nat → Nat → Int32) (l : List Nat), TR i a l → l.length + 10 ≤ 40000 → ∃ i' a', m_Model_sayNumber_b17 n n i j a b (nI z.natAbs) (1 : Int32) = some (i', j, a', b, 0) ∧ TR i' a' (l ++ aDig z.natAbs (aUnit z.natAbs)) ∧ oS i a i' a' := by
    intro i a l h hl
    have e := r_unit_b (n := n) (i := i) (j := j) (a := a) (b := b) (v := z.natAbs) (by omega) (aUnit z.natAbs) 0 n (by omega) (by omega)
    rw [show nI (10 ^ 0) = (1 : Int32) from rfl] at e
    rw [e]
    exact r_dig_b (by omega) _ n i a l h hu (by omega) (by omega)
  unfold m_Model_sayNumber m_Model_sayNumber_b10 m_Math_abs aNumS
  rcases Classical.em (z < 0) with c | c
  · have hneg : ¬ (0 : Int32) ≤ Int32.ofInt z := by rw [Int32.le_iff_toInt_le, ti, e0]; omega
    rw [if_neg hneg, if_pos c]
    obtain ⟨e1, e2, e3⟩ := r_say (n := n) (j := j) (b := b) (c := 45) h (by omega) (by decide)
    obtain ⟨i', a', z1, z2, z3⟩ := key _ _ _ e2 (by rw [List.length_append, List.length_singleton]; omega)
    refine ⟨i', a', ?_, by rw [List.append_assoc] at z2; exact z2, oS_trans e3 z3⟩
    rw [show (45 : Int32) = nI 45 from rfl, e1, om_s, if_neg hneg, ob0_s, show -(Int32.ofInt z) = nI z.natAbs from by rw [← Int32.ofInt_neg, nI_ofInt]; congr 1; omega]
    exact z1
  · have hpos : (0 : Int32) ≤ Int32.ofInt z := by rw [Int32.le_iff_toInt_le, ti, e0]; omega
    rw [if_pos hpos, if_neg c, if_pos hpos, ob0_s, show Int32.ofInt z = nI z.natAbs from by rw [nI_ofInt]; congr 1; omega]
    exact key i a l h (by omega)
theorem r_sayWord_b {n : Nat} {j : Nat → Int64} {b : Nat → Nat → Int64} {B : RB4} {w : Nat} {r : List Nat} : ∀ (m k f : Nat) (i : Nat → Int32) (a : Nat → Nat → Int32) (l : List Nat), r.length = k + m → m < f → rW a B w r → TR i a l → l.length + m ≤ 40000 → ∃ i' a', m_Model_sayFlat_b20 n f i j a b (vW w) (nI k) = some (i', j, a', b, 0) ∧ TR i' a' (l ++ r.drop k) ∧ oS i a i' a' := by
  intro m
  induction m with
  | zero =>
    intro k f i a l e hf hw h hl
    obtain ⟨f, rfl⟩ : ∃ f', f = f' + 1 := ⟨f - 1, by omega⟩
    obtain ⟨h1, h2, h3, h4, h5, h6, h7, p, h8, h9, h10⟩ := hw
    rw [m_Model_sayFlat_b20, r_whatW (by omega), ob0_s, ck_n (by omega), cl_n (by omega), h7, ile_p (by omega), List.drop_of_length_le (by omega), List.append_nil]
    exact ⟨i, a, rfl, h, oS_refl i a⟩
  | succ m ih =>
    intro k f i a l e hf hw h hl
    obtain ⟨f, rfl⟩ : ∃ f', f = f' + 1 := ⟨f - 1, by omega⟩
    obtain ⟨h1, h2, h3, h4, h5, h6, h7, p, h8, h9, h10⟩ := id hw
    have hk : k < r.length := by omega
    have hc := h6 _ (List.getElem_mem hk)
    obtain ⟨e1, e2, e3⟩ := r_say (n := n) (j := j) (b := b) (c := r[k]) h (by omega) (by omega)
    have hw2 : rW (sv a 24 l.length (nI r[k])) B w r := ⟨h1, h2, h3, h4, h5, h6, h7, p, h8, h9, h10⟩
    obtain ⟨i', a', z1, z2, z3⟩ := ih (k + 1) f _ _ _ (by omega) (by omega) hw2 e2 (by rw [List.length_append, List.length_singleton]; omega)
    have ed : r.drop k = r[k] :: r.drop (k + 1) := List.drop_eq_getElem_cons hk
    refine ⟨i', a', ?_, by rw [ed]; rw [List.append_assoc] at z2; exact z2, oS_trans e3 z3⟩
    rw [m_Model_sayFlat_b20, r_whatW (by omega), ob0_s, ck_n (by omega), cl_n (by omega), h7, ile_n (by omega), ob0_s, ck_n (by omega), cl_n (by omega), h8, nI_add, ck_n (by omega), cl_n (by omega), h10 k hk, e1, om_s, ob1_s, show (1 : Int32) = nI 1 from rfl, nI_add]
    exact z1
theorem r_sayFlat {n : Nat} {i : Nat → Int32} {j : Nat → Int64} {a : Nat → Nat → Int32} {b : Nat → Nat → Int64} {B : RB4} {l : List Nat} {t : Tr} {v : Int64} (hn : 1000 ≤ n) (hv : rV a b B t none v) (ht : isL t = false) (h : TR i a l) (hl : l.length + 40 ≤ 40000) : ∃ i' a', m_Model_sayFlat n i j a b v = some (i', j, a', b, 0) ∧ TR i' a' (l ++ aSh t 0) ∧ oS i a i' a' := by
  obtain ⟨k1, k2, k3⟩ := r_kinds n hv
  unfold m_Model_sayFlat
  rw [k1, ob0_s]
  rcases rV_cases hv with ⟨k, rfl, h1, h2, rfl⟩ | ⟨r, w, rfl, rfl, h3⟩ | ⟨ms, l', p, rfl, rfl, h3, h4⟩
  · obtain ⟨i', a', z1, z2, z3⟩ := r_sayNumber (n := n) (j := j) (b := b) hn h1 h2 h (by omega)
    refine ⟨i', a', ?_, z2, z3⟩
    rw [isN_tN, if_neg (show ¬ b1 true = (0 : Int32) from fun e => absurd ((nI_eq (a := 1) (b := 0) (by omega) (by omega)).mp e) (by decide)), r_whatN h1 h2, ob0_s, z1, om_s]
  · have h30 := h3.2.2.2.2.1
    obtain ⟨i', a', z1, z2, z3⟩ := r_sayWord_b (n := n) (j := j) (b := b) r.length 0 n i a l (by omega) (by omega) h3 h (by omega)
    rw [List.drop_zero] at z2
    refine ⟨i', a', ?_, by rw [aSh_tW]; exact z2, z3⟩
    rw [isN_tW, if_pos (show b1 false = (0 : Int32) from rfl)]
    exact z1
  · rw [isL_tL] at ht; cases ht

