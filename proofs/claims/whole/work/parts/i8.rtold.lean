/-! words that the reference makes of its texts -/
theorem updA_own {a a' : Nat → Nat → Int32} {k : Nat} (h : ∀ q, q ≠ k → a' q = a q) : a' = updA a k (a' k) := by
  funext q
  unfold updA
  rcases Classical.em (q = k) with c | c
  · rw [if_pos c, c]
  · rw [if_neg c]; exact h q c
theorem r_told_b {n : Nat} {i : Nat → Int32} {j : Nat → Int64} {a0 : Nat → Nat → Int32} {b : Nat → Nat → Int64} {B : RB4} {t : Nat} {r : List Nat} (ht : isTx t r) (h18 : i 18 = nI B.2.1) (h19 : i 19 = nI B.1) (hB : B.1 < 120000 ∧ B.2.1 ≤ 300000 ∧ B.2.2.1 ≤ 90000 ∧ B.2.2.2 ≤ 90000) (hL : B.2.1 + r.length ≤ 300000) : ∀ (m k f : Nat) (a : Nat → Nat → Int32), k + m = r.length → m < f → (∀ q, q ≠ 1 → a q = a0 q) → (∀ x, x < B.2.1 → a 1 x = a0 1 x) → (∀ x (h : x < r.length), x < k → a 1 (B.2.1 + x) = nI (r[x]'h)) → ∃ r', m_Model_told_b2 n f i j a b t (nI k) = some (upd (upd i 19 (nI (B.1 + 1))) 18 (nI (B.2.1 + r.length)), j, wrA (updA a0 1 r') B.1 B.2.1 r.length, svl b 9 B.1 3, vW B.1) ∧ (∀ x, x < B.2.1 → r' x = a0 1 x) ∧ (∀ x (h : x < r.length), r' (B.2.1 + x) = nI (r[x]'h)) := by
  obtain ⟨t1, t2, t3, t4, t5⟩ := ht
  intro m
  induction m with
  | zero =>
    intro k f a e hf h1 h2 h3
    obtain ⟨f, rfl⟩ : ∃ f', f = f' + 1 := ⟨f - 1, by omega⟩
    have ea := updA_own h1
    refine ⟨a 1, ?_, h2, fun x hx => h3 x hx (by omega)⟩
    have e18 : upd i 19 (nI (B.1 + 1)) 18 = nI B.2.1 := (upd_ne (by decide)).trans h18
    rw [m_Model_told_b2, t2]
    unfold ct
    rw [if_pos t1, ile_p (by omega), h18, r_newWord h19 hB.1, om_s, r_wordValue (by omega), ob0_s, ob1_s, ob1_s, e18, nI_add, ← ea]
  | succ m ih =>
    intro k f a e hf h1 h2 h3
    obtain ⟨f, rfl⟩ : ∃ f', f = f' + 1 := ⟨f - 1, by omega⟩
    have hk : k < r.length := by omega
    have hc := t4 _ (List.getElem_mem hk)
    obtain ⟨r', z1, z2, z3⟩ := ih (k + 1) f (sv a 1 (B.2.1 + k) (nI r[k])) (by omega) (by omega) (fun q hq => (updA_ne hq).trans (h1 q hq)) (fun x hx => by show upd (a 1) _ _ x = _; rw [upd_ne (by omega)]; exact h2 x hx) (fun x hx hx2 => by
      show upd (a 1) _ _ _ = _
      rcases Classical.em (x = k) with c | c
      · subst c; rw [upd_at]
      · rw [upd_ne (by omega)]; exact h3 x hx (by omega))
    refine ⟨r', ?_, z2, z3⟩
    rw [m_Model_told_b2, t2]
    unfold ct
    rw [if_pos t1, ile_n (by omega), cs_n (by omega), h18, nI_add, ck_n (by omega), ob1_s, cl_n (by omega), cl_n (by omega), t5 k hk, nar8 (by omega), ob1_s, show (1 : Int32) = nI 1 from rfl, nI_add]
    exact z1
theorem r_told {n : Nat} {i : Nat → Int32} {j : Nat → Int64} {a : Nat → Nat → Int32} {b : Nat → Nat → Int64} {B : RB4} {t : Nat} {r : List Nat} (hn : 1000 ≤ n) (ht : isTx t r) (h0 : r ≠ []) (h30 : r.length ≤ 30) (hok : okLs r) (hi : rB i B) (hC : rC a b B) (hW : B.1 < 120000) (hL : B.2.1 + r.length ≤ 300000) :
    ∃ i' a' b', m_Model_told n i j a b t = some (i', j, a', b', vW B.1) ∧ rUp a b B a' b' (B.1 + 1, B.2.1 + r.length, B.2.2.1, B.2.2.2) ∧ rB i' (B.1 + 1, B.2.1 + r.length, B.2.2.1, B.2.2.2) ∧ rC a' b' (B.1 + 1, B.2.1 + r.length, B.2.2.1, B.2.2.2) ∧ rV a' b' (B.1 + 1, B.2.1 + r.length, B.2.2.1, B.2.2.2) (tW r) none (vW B.1) ∧ (∀ q, q ≠ 18 → q ≠ 19 → i' q = i q) ∧ (∀ q, q ≠ 1 → q ≠ 3 → q ≠ 4 → q ≠ 7 → a' q = a q) ∧ (∀ q, q ≠ 9 → b' q = b q) := by
  obtain ⟨j1, j2, j3, j4, j5, j6, j7, j8⟩ := id hi
  have hB : B.1 < 120000 ∧ B.2.1 ≤ 300000 ∧ B.2.2.1 ≤ 90000 ∧ B.2.2.2 ≤ 90000 := ⟨hW, j6, j7, j8⟩
  obtain ⟨r', z1, z2, z3⟩ := r_told_b (n := n) (i := i) (j := j) (a0 := a) (b := b) (B := B) ht j2 j1 hB hL r.length 0 n a (by omega) (by omega) (fun _ _ => rfl) (fun _ _ => rfl) (fun x _ hx => absurd hx (Nat.not_lt_zero x))
  obtain ⟨g1, g2, g3⟩ := rC_word (a := a) (b := b) (B := B) (p := B.2.1) (l := r) (r := r') hB hL z2 h0 h30 hok (Nat.le_refl _) z3 hC
  refine ⟨upd (upd i 19 (nI (B.1 + 1))) 18 (nI (B.2.1 + r.length)), _, _, ?_, g1, ⟨?_, upd_at, ?_, ?_, hW, hL, j7, j8⟩, g3, rV_tW.mpr ⟨B.1, rfl, g2⟩, fun q q1 q2 => by rw [upd_ne q1, upd_ne q2], fun q q1 q3 q4 q7 => ?_, fun q hq => updB_ne hq⟩
  · unfold m_Model_told ct
    rw [if_pos ht.1]
    exact z1
  · rw [upd_ne (by decide), upd_at]
  · rw [upd_ne (by decide), upd_ne (by decide)]; exact j3
  · rw [upd_ne (by decide), upd_ne (by decide)]; exact j4
  · unfold wrA sv
    rw [updA_ne q7, updA_ne q4, updA_ne q3, updA_ne q1]

