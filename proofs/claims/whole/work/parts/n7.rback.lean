/-! the reference goes back -/
theorem back_q {n : Nat} {i : Nat → Int32} {j : Nat → Int64} {a : Nat → Nat → Int32} {W : Nat} (h19 : i 19 = nI W) (hW : W ≤ 120000) : ∀ (m k f : Nat) (b : Nat → Nat → Int64), k + m = W → m < f → ∃ b', m_Model_putBack_b230 n f i j a b (nI k) = some (i, j, a, b', 0) ∧ (∀ q, q ≠ 9 → b' q = b q) ∧ (∀ x, x < k → b' 9 x = b 9 x) ∧ ∀ x, k ≤ x → x < W → b' 9 x = 3 := by
  intro m
  induction m with
  | zero =>
    intro k f b hk hf
    obtain ⟨f, rfl⟩ : ∃ f', f = f' + 1 := ⟨f - 1, by omega⟩
    refine ⟨b, ?_, fun _ _ => rfl, fun _ _ => rfl, fun x h1 h2 => by omega⟩
    rw [m_Model_putBack_b230, h19, ile_p (by omega)]
  | succ m ih =>
    intro k f b hk hf
    obtain ⟨f, rfl⟩ : ∃ f', f = f' + 1 := ⟨f - 1, by omega⟩
    obtain ⟨b', h1, h2, h3, h4⟩ := ih (k + 1) f (svl b 9 k 3) (by omega) (by omega)
    refine ⟨b', ?_, fun q hq => (h2 q hq).trans (updB_ne hq), fun x hx => (h3 x (by omega)).trans (svl_ne (by omega)), fun x q1 q2 => ?_⟩
    · rw [m_Model_putBack_b230, h19, ile_n (by omega), ck_n (by omega), ob1_s, ob1_s, cl_n (by omega), show nI k + (1 : Int32) = nI (k + 1) from nI_add k 1]
      exact h1
    · rcases (by omega : x = k ∨ k + 1 ≤ x) with e | e
      · subst e
        rw [h3 x (by omega)]
        exact svl_at
      · exact h4 x e q2
theorem back_l {n : Nat} {i : Nat → Int32} {j : Nat → Int64} {b : Nat → Nat → Int64} : ∀ (m k f : Nat) (a : Nat → Nat → Int32), k + m = 7 → m < f → ∃ a' f', m_Model_putBack_b93 n f i j a b (nI k) = m_Model_putBack_b93 n (f' + 1) i j a' b (nI 7) ∧ (∀ q, (q < 37 + k ∨ 43 < q) → a' q = a q) ∧ ∀ q t, k ≤ q → q < 7 → t < 8 → a' (37 + q) t = a 53 (8 * q + t) := by
  intro m
  induction m with
  | zero =>
    intro k f a hk hf
    obtain ⟨f, rfl⟩ : ∃ f', f = f' + 1 := ⟨f - 1, by omega⟩
    have : k = 7 := by omega
    subst this
    exact ⟨a, f, rfl, fun _ _ => rfl, fun q t h1 h2 => by omega⟩
  | succ m ih =>
    intro k f a hk hf
    obtain ⟨f, rfl⟩ : ∃ f', f = f' + 1 := ⟨f - 1, by omega⟩
    have e8 : (8 : Int32) * nI k = nI (8 * k) := by rw [show (8 : Int32) = nI 8 from rfl, pk_mul]
    obtain ⟨a', f', h1, h2, h4⟩ := ih (k + 1) f (updA a (37 + k) (va_cpy (a 53) (a (37 + k)) (8 * k) 0 8)) (by omega) (by omega)
    refine ⟨a', f', ?_, fun q hq => (h2 q (by omega)).trans (updA_ne (by omega)), fun q t q1 q2 q3 => ?_⟩
    · rw [m_Model_putBack_b93, show (7 : Int32) = nI 7 from rfl, ile_n (by omega), row_k (by omega), ob0_s, cd_k (by omega), e8, show (0 : Int32) = nI 0 from rfl, show (8 : Int32) = nI 8 from rfl, cy_n (by omega), ob1_s, ob1_s, cl_n (by omega), cl_n (by omega), cl_n (by omega), show nI k + (1 : Int32) = nI (k + 1) from nI_add k 1]
      exact h1
    · rcases (by omega : q = k ∨ k + 1 ≤ q) with e | e
      · subst e
        rw [h2 _ (by omega), updA_at, pk_cpy_in (Nat.zero_le _) (by omega)]
        congr 1
      · rw [h4 q t e q2 q3, updA_ne (by omega)]
theorem r_back {n W : Nat} {i0 : Nat → Int32} {j0 : Nat → Int64} {a0 : Nat → Nat → Int32} {b0 : Nat → Nat → Int64} {i : Nat → Int32} {j : Nat → Int64} {a : Nat → Nat → Int32} {b : Nat → Nat → Int64} (hn : 200000 ≤ n) (hW : i0 19 = nI W ∧ W ≤ 120000) (h45 : ∀ k, k < 2000 → ∃ c, c < 128 ∧ a0 45 k = nI c) (hs : SN i0 j0 a0 b0 i j a b) : ∃ i' j' a' b', m_Model_putBack n i j a b = some (i', j', a', b', 0) ∧ (((∀ x, x < 40 → a' 29 x = a0 29 x ∧ a' 30 x = a0 30 x ∧ b' 32 x = b0 32 x) ∧ (∀ x, x < 200 → a' 31 x = a0 31 x) ∧ (∀ x, x < 64 → a' 34 x = a0 34 x ∧ b' 35 x = b0 35 x)) ∧ ((∀ k t, k < 7 → t < 8 → a' (37 + k) t = a0 (37 + k) t) ∧ (∀ x, x < 4096 → a' 44 x = a0 44 x) ∧ (∀ x, x < 2000 → a' 45 x = a0 45 x)) ∧ ((∀ q, q ∈ [33, 36, 46, 47, 18, 19, 20, 21] → i' q = i0 q) ∧ j' 48 = j0 48) ∧ ∀ x, x < W → b' 9 x = 3) ∧ (∀ q, q ∉ [33, 36, 46, 47, 18, 19, 20, 21] → i' q = i q) ∧ (∀ q, q ≠ 48 → j' q = j q) ∧ (∀ q, q ∉ [29, 30, 31, 34, 37, 38, 39, 40, 41, 42, 43, 44, 45] → a' q = a q) ∧ (∀ q, q ∉ [9, 32, 35] → b' q = b q) := by
  obtain ⟨⟨s1, s2, s3⟩, ⟨s4, s5, s6⟩, t1, t2, t3, t4, t5, t6, t7, t8, t9⟩ := hs
  unfold m_Model_putBack
  have z : ∀ (α : Type) (o : Option α) (m : Nat), m ≤ 5000 → cy (0 : Int32) (0 : Int32) (nI m) m m o = o := fun α o m hm => by
    rw [show (0 : Int32) = nI 0 from rfl]
    exact cy_n (by omega)
  have c0 : (0 : Int32).toNatClampNeg = 0 := rfl
  rw [show (40 : Int32) = nI 40 from rfl, show (200 : Int32) = nI 200 from rfl, show (64 : Int32) = nI 64 from rfl]
  simp only [z _ _ 40 (by decide), z _ _ 200 (by decide), z _ _ 64 (by decide), ob1_s]
  rw [c0, show (nI 40).toNatClampNeg = 40 from rfl, show (nI 200).toNatClampNeg = 200 from rfl, show (nI 64).toNatClampNeg = 64 from rfl]
  obtain ⟨a1, ea1⟩ : ∃ a1, a1 = updA a 29 (va_cpy (a 49) (a 29) 0 0 40) := ⟨_, rfl⟩
  rw [← ea1]
  obtain ⟨a2, ea2⟩ : ∃ a2, a2 = updA a1 30 (va_cpy (a1 50) (a1 30) 0 0 40) := ⟨_, rfl⟩
  rw [← ea2]
  obtain ⟨a3, ea3⟩ : ∃ a3, a3 = updA a2 31 (va_cpy (a2 51) (a2 31) 0 0 200) := ⟨_, rfl⟩
  rw [← ea3]
  obtain ⟨a4, ea4⟩ : ∃ a4, a4 = updA a3 34 (va_cpy (a3 52) (a3 34) 0 0 64) := ⟨_, rfl⟩
  rw [← ea4]
  obtain ⟨b1, eb1⟩ : ∃ b1, b1 = updB b 32 (va_cpy (b 55) (b 32) 0 0 40) := ⟨_, rfl⟩
  rw [← eb1]
  obtain ⟨b2, eb2⟩ : ∃ b2, b2 = updB b1 35 (va_cpy (b1 56) (b1 35) 0 0 64) := ⟨_, rfl⟩
  rw [← eb2]
  have n1 : ∀ q, q ≠ 29 → a1 q = a q := fun q hq => by rw [ea1, updA_ne hq]
  have n2 : ∀ q, q ≠ 30 → a2 q = a1 q := fun q hq => by rw [ea2, updA_ne hq]
  have n3 : ∀ q, q ≠ 31 → a3 q = a2 q := fun q hq => by rw [ea3, updA_ne hq]
  have n4 : ∀ q, q ≠ 34 → a4 q = a3 q := fun q hq => by rw [ea4, updA_ne hq]
  have n14 : ∀ q, q ∉ [29, 30, 31, 34] → a4 q = a q := fun q hq => (n4 q (nm_ne hq (by decide))).trans ((n3 q (nm_ne hq (by decide))).trans ((n2 q (nm_ne hq (by decide))).trans (n1 q (nm_ne hq (by decide)))))
  have m1 : ∀ q, q ≠ 32 → b1 q = b q := fun q hq => by rw [eb1, updB_ne hq]
  have m2 : ∀ q, q ≠ 35 → b2 q = b1 q := fun q hq => by rw [eb2, updB_ne hq]
  obtain ⟨a5, f5, k1, k2, k4⟩ := back_l (n := n) (i := i) (j := j) (b := b2) 7 0 n a4 (by omega) (by omega)
  rw [show (0 : Int32) = nI 0 from rfl, k1, m_Model_putBack_b93, if_pos (by decide)]
  have e57 : a5 57 = a 57 := (k2 57 (by omega)).trans (n14 57 (by decide))
  have u44 : ∀ q, q ≠ 44 → ∀ r, updA a5 44 r q = a5 q := fun q hq r => updA_ne hq
  rw [show (4096 : Int32) = nI 4096 from rfl, z _ _ 4096 (by decide), ob1_s, show (2000 : Int32) = nI 2000 from rfl, z _ _ 2000 (by decide), c0, show (nI 4096).toNatClampNeg = 4096 from rfl, show (nI 2000).toNatClampNeg = 2000 from rfl, show (0 : Int32) = nI 0 from rfl, cyb_ok (by decide) (by decide) (fun x hx => by rw [u44 57 (by decide), e57, Nat.zero_add, s6 x hx]; exact h45 x hx)]
  simp only [ob1_s]
  obtain ⟨a6, ea6⟩ : ∃ a6, a6 = updA a5 44 (va_cpy (a5 54) (a5 44) 0 0 4096) := ⟨_, rfl⟩
  rw [← ea6]
  obtain ⟨a7, ea7⟩ : ∃ a7, a7 = updA a6 45 (va_cpy (a6 57) (a6 45) 0 0 2000) := ⟨_, rfl⟩
  rw [← ea7]
  have n6 : ∀ q, q ≠ 44 → a6 q = a5 q := fun q hq => by rw [ea6, updA_ne hq]
  have n7 : ∀ q, q ≠ 45 → a7 q = a6 q := fun q hq => by rw [ea7, updA_ne hq]
  have n17 : ∀ q, q ∉ [29, 30, 31, 34, 37, 38, 39, 40, 41, 42, 43, 44, 45] → a7 q = a q := fun q hq => (n7 q (nm_ne hq (by decide))).trans ((n6 q (nm_ne hq (by decide))).trans ((k2 q (by simp at hq; omega)).trans (n14 q (fun hm => hq ((show ∀ q ∈ [29, 30, 31, 34], q ∈ [29, 30, 31, 34, 37, 38, 39, 40, 41, 42, 43, 44, 45] by decide) q hm)))))
  have up5 : ∀ q, q ∈ [29, 30, 31, 34] → a7 q = a4 q := fun q hq => (n7 q (fun e => by subst e; revert hq; decide)).trans ((n6 q (fun e => by subst e; revert hq; decide)).trans (k2 q (by simp at hq; omega)))
  have p29 : ∀ x, x < 40 → a7 29 x = a0 29 x := fun x hx => by
    rw [up5 29 (by decide), n4 29 (by decide), n3 29 (by decide), n2 29 (by decide), ea1, updA_at, pk_cpy_in (Nat.zero_le _) (by omega), Nat.zero_add, Nat.sub_zero, (s1 x hx).1]
  have p30 : ∀ x, x < 40 → a7 30 x = a0 30 x := fun x hx => by
    rw [up5 30 (by decide), n4 30 (by decide), n3 30 (by decide), ea2, updA_at, pk_cpy_in (Nat.zero_le _) (by omega), Nat.zero_add, Nat.sub_zero, n1 50 (by decide), (s1 x hx).2.1]
  have p31 : ∀ x, x < 200 → a7 31 x = a0 31 x := fun x hx => by
    rw [up5 31 (by decide), n4 31 (by decide), ea3, updA_at, pk_cpy_in (Nat.zero_le _) (by omega), Nat.zero_add, Nat.sub_zero, n2 51 (by decide), n1 51 (by decide), s2 x hx]
  have p34 : ∀ x, x < 64 → a7 34 x = a0 34 x := fun x hx => by
    rw [up5 34 (by decide), ea4, updA_at, pk_cpy_in (Nat.zero_le _) (by omega), Nat.zero_add, Nat.sub_zero, n3 52 (by decide), n2 52 (by decide), n1 52 (by decide), (s3 x hx).1]
  have p32 : ∀ x, x < 40 → b2 32 x = b0 32 x := fun x hx => by
    rw [m2 32 (by decide), eb1, updB_same, pk_cpy_in (Nat.zero_le _) (by omega), Nat.zero_add, Nat.sub_zero, (s1 x hx).2.2]
  have p35 : ∀ x, x < 64 → b2 35 x = b0 35 x := fun x hx => by
    rw [eb2, updB_same, pk_cpy_in (Nat.zero_le _) (by omega), Nat.zero_add, Nat.sub_zero, m1 56 (by decide), (s3 x hx).2]
  have p37 : ∀ k t, k < 7 → t < 8 → a7 (37 + k) t = a0 (37 + k) t := fun k t hk ht => by
    rw [n7 _ (by omega), n6 _ (by omega), k4 k t (Nat.zero_le _) hk ht, n14 53 (by decide), s4 k t hk ht]
  have p44 : ∀ x, x < 4096 → a7 44 x = a0 44 x := fun x hx => by
    rw [n7 44 (by decide), ea6, updA_at, pk_cpy_in (Nat.zero_le _) (by omega), Nat.zero_add, Nat.sub_zero, k2 54 (by omega), n14 54 (by decide), s5 x hx]
  have p45 : ∀ x, x < 2000 → a7 45 x = a0 45 x := fun x hx => by
    rw [ea7, updA_at, pk_cpy_in (Nat.zero_le _) (by omega), Nat.zero_add, Nat.sub_zero, n6 57 (by decide), e57, s6 x hx]
  obtain ⟨i8, ei8⟩ : ∃ i8, i8 = upd (upd (upd (upd (upd (upd (upd (upd i 33 (i 59)) 36 (i 60)) 46 (i 61)) 47 (i 62)) 18 (i 63)) 19 (i 64)) 20 (i 65)) 21 (i 66) := ⟨_, rfl⟩
  have eqi : ∀ q, q ∈ [33, 36, 46, 47, 18, 19, 20, 21] → i8 q = i0 q := by
    intro q hq
    rw [ei8]
    simp only [List.mem_cons, List.not_mem_nil, or_false] at hq
    rcases hq with rfl | rfl | rfl | rfl | rfl | rfl | rfl | rfl
    · exact t1
    · exact t2
    · exact t3
    · exact t4
    · exact t5
    · exact t6
    · exact t7
    · exact t8
  have nqi : ∀ q, q ∉ [33, 36, 46, 47, 18, 19, 20, 21] → i8 q = i q := fun q hq => by
    rw [ei8, upd_ne (nm_ne hq (by decide)), upd_ne (nm_ne hq (by decide)), upd_ne (nm_ne hq (by decide)), upd_ne (nm_ne hq (by decide)), upd_ne (nm_ne hq (by decide)), upd_ne (nm_ne hq (by decide)), upd_ne (nm_ne hq (by decide)), upd_ne (nm_ne hq (by decide))]
  obtain ⟨b3, g1, g2, g3, g4⟩ := back_q (n := n) (i := i8) (j := vp_updL j 48 (j 58)) (a := a7) (W := W) ((eqi 19 (by decide)).trans hW.1) hW.2 W 0 n b2 (by omega) (by omega)
  refine ⟨i8, vp_updL j 48 (j 58), a7, b3, ?_, ⟨⟨fun x hx => ⟨p29 x hx, p30 x hx, by rw [g2 32 (by decide)]; exact p32 x hx⟩, p31, fun x hx => ⟨p34 x hx, by rw [g2 35 (by decide)]; exact p35 x hx⟩⟩, ⟨p37, p44, p45⟩, ⟨eqi, by rw [updL_at]; exact t9⟩, fun x hx => g4 x (Nat.zero_le _) hx⟩, nqi, fun q hq => updL_ne hq, n17, fun q hq => (g2 q (nm_ne hq (by decide))).trans ((m2 q (nm_ne hq (by decide))).trans (m1 q (nm_ne hq (by decide))))⟩
  refine (congrArg (fun z => m_Model_putBack_b230 n n z (vp_updL j 48 (j 58)) a7 b2 (nI 0)) ?_).trans g1
  rw [ei8]
  rfl

