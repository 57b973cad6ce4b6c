/-! the reference keeps its world, and goes back -/
theorem updB_same {b : Nat → Nat → Int64} {k : Nat} {f : Nat → Int64} : updB b k f k = f := by unfold updB; rw [if_pos rfl]
theorem cyb_ok {δ : Type} {f : Nat → Int32} {sp m : Nat} {k : Option δ} (hs : sp ≤ 300000) (hm : m ≤ 300000) (h : ∀ x, x < m → ∃ c, c < 128 ∧ f (sp + x) = nI c) : cyb f (nI sp) (nI m) k = k := by
  unfold cyb
  rw [if_pos]
  rw [List.all_eq_true]
  intro x hx
  rw [cl_n (by omega), List.mem_range] at hx
  obtain ⟨c, c1, c2⟩ := h x hx
  rw [cl_n (by omega), c2]
  exact fit8 c c1
/-- the rows that were set aside hold the world of that time -/
def SN (i0 : Nat → Int32) (j0 : Nat → Int64) (a0 : Nat → Nat → Int32) (b0 : Nat → Nat → Int64) (i : Nat → Int32) (j : Nat → Int64) (a : Nat → Nat → Int32) (b : Nat → Nat → Int64) : Prop := ((∀ x, x < 40 → a 49 x = a0 29 x ∧ a 50 x = a0 30 x ∧ b 55 x = b0 32 x) ∧ (∀ x, x < 200 → a 51 x = a0 31 x) ∧ (∀ x, x < 64 → a 52 x = a0 34 x ∧ b 56 x = b0 35 x)) ∧ ((∀ k t, k < 7 → t < 8 → a 53 (8 * k + t) = a0 (37 + k) t) ∧ (∀ x, x < 4096 → a 54 x = a0 44 x) ∧ (∀ x, x < 2000 → a 57 x = a0 45 x)) ∧ (i 59 = i0 33 ∧ i 60 = i0 36 ∧ i 61 = i0 46 ∧ i 62 = i0 47 ∧ i 63 = i0 18 ∧ i 64 = i0 19 ∧ i 65 = i0 20 ∧ i 66 = i0 21 ∧ j 58 = j0 48)
theorem row_k {n k : Nat} {i : Nat → Int32} {j : Nat → Int64} {a : Nat → Nat → Int32} {b : Nat → Nat → Int64} (h : k < 7) : m_Model_turtleRow n i j a b (nI k) = some (37 + k) := by
  unfold m_Model_turtleRow
  rcases (by omega : k = 0 ∨ k = 1 ∨ k = 2 ∨ k = 3 ∨ k = 4 ∨ k = 5 ∨ k = 6) with rfl | rfl | rfl | rfl | rfl | rfl | rfl <;> rfl
theorem cd_k {δ : Type} {k : Nat} {o : Option δ} (h : k < 7) : cd (37 + k) o = o := by unfold cd; rw [if_pos (by omega)]
theorem keep_l {n : Nat} {i : Nat → Int32} {j : Nat → Int64} {b : Nat → Nat → Int64} : ∀ (m k f : Nat) (a : Nat → Nat → Int32), k + m = 7 → m < f → ∃ a' f', m_Model_keep_b93 n f i j a b (nI k) = m_Model_keep_b93 n (f' + 1) i j a' b (nI 7) ∧ (∀ q, q ≠ 53 → a' q = a q) ∧ (∀ x, x < 8 * k → a' 53 x = a 53 x) ∧ ∀ q t, k ≤ q → q < 7 → t < 8 → a' 53 (8 * q + t) = a (37 + q) t := by
  intro m
  induction m with
  | zero =>
    intro k f a hk hf
    obtain ⟨f, rfl⟩ : ∃ f', f = f' + 1 := ⟨f - 1, by omega⟩
    have : k = 7 := by omega
    subst this
    exact ⟨a, f, rfl, fun _ _ => rfl, fun _ _ => rfl, fun q t h1 h2 => by omega⟩
  | succ m ih =>
    intro k f a hk hf
    obtain ⟨f, rfl⟩ : ∃ f', f = f' + 1 := ⟨f - 1, by omega⟩
    have e8 : (8 : Int32) * nI k = nI (8 * k) := by rw [show (8 : Int32) = nI 8 from rfl, pk_mul]
    obtain ⟨a', f', h1, h2, h3, h4⟩ := ih (k + 1) f (updA a 53 (va_cpy (a (37 + k)) (a 53) 0 (8 * k) 8)) (by omega) (by omega)
    refine ⟨a', f', ?_, fun q hq => (h2 q hq).trans (updA_ne hq), fun x hx => ?_, fun q t q1 q2 q3 => ?_⟩
    · rw [m_Model_keep_b93, show (7 : Int32) = nI 7 from rfl, ile_n (by omega), row_k (by omega), ob0_s, cd_k (by omega), e8, show (0 : Int32) = nI 0 from rfl, show (8 : Int32) = nI 8 from rfl, cy_n (by omega), ob1_s, ob1_s, cl_n (by omega), cl_n (by omega), cl_n (by omega), show nI k + (1 : Int32) = nI (k + 1) from nI_add k 1]
      exact h1
    · rw [h3 x (by omega), updA_at, pk_cpy_out (by omega)]
    · rcases (by omega : q = k ∨ k + 1 ≤ q) with e | e
      · subst e
        rw [h3 _ (by omega), updA_at, pk_cpy_in (by omega) (by omega)]
        congr 1
        omega
      · rw [h4 q t e q2 q3, updA_ne (by omega)]
theorem r_keep {n : Nat} {i : Nat → Int32} {j : Nat → Int64} {a : Nat → Nat → Int32} {b : Nat → Nat → Int64} (hn : 100 ≤ n) (h45 : ∀ k, k < 2000 → ∃ c, c < 128 ∧ a 45 k = nI c) : ∃ i' j' a' b', m_Model_keep n i j a b = some (i', j', a', b', 0) ∧ SN i j a b i' j' a' b' ∧ (∀ q, (q < 59 ∨ 66 < q) → i' q = i q) ∧ (∀ q, q ≠ 58 → j' q = j q) ∧ (∀ q, q ∉ [49, 50, 51, 52, 53, 54, 57] → a' q = a q) ∧ (∀ q, q ≠ 55 → q ≠ 56 → b' q = b q) := by
  unfold m_Model_keep
  have z : ∀ (α : Type) (o : Option α) (m : Nat), m ≤ 5000 → cy (0 : Int32) (0 : Int32) (nI m) m m o = o := fun α o m hm => by
    rw [show (0 : Int32) = nI 0 from rfl]
    exact cy_n (by omega)
  have c0 : (0 : Int32).toNatClampNeg = 0 := rfl
  have c40 : (40 : Int32).toNatClampNeg = 40 := rfl
  have c200 : (200 : Int32).toNatClampNeg = 200 := rfl
  have c64 : (64 : Int32).toNatClampNeg = 64 := rfl
  have c4096 : (4096 : Int32).toNatClampNeg = 4096 := rfl
  have c2000 : (2000 : Int32).toNatClampNeg = 2000 := rfl
  rw [show (40 : Int32) = nI 40 from rfl, show (200 : Int32) = nI 200 from rfl, show (64 : Int32) = nI 64 from rfl]
  simp only [z _ _ 40 (by decide), z _ _ 200 (by decide), z _ _ 64 (by decide), ob1_s]
  rw [c0, show (nI 40).toNatClampNeg = 40 from rfl, show (nI 200).toNatClampNeg = 200 from rfl, show (nI 64).toNatClampNeg = 64 from rfl]
  obtain ⟨a1, ea1⟩ : ∃ a1, a1 = updA a 49 (va_cpy (a 29) (a 49) 0 0 40) := ⟨_, rfl⟩
  rw [← ea1]
  obtain ⟨a2, ea2⟩ : ∃ a2, a2 = updA a1 50 (va_cpy (a1 30) (a1 50) 0 0 40) := ⟨_, rfl⟩
  rw [← ea2]
  obtain ⟨a3, ea3⟩ : ∃ a3, a3 = updA a2 51 (va_cpy (a2 31) (a2 51) 0 0 200) := ⟨_, rfl⟩
  rw [← ea3]
  obtain ⟨a4, ea4⟩ : ∃ a4, a4 = updA a3 52 (va_cpy (a3 34) (a3 52) 0 0 64) := ⟨_, rfl⟩
  rw [← ea4]
  obtain ⟨b1, eb1⟩ : ∃ b1, b1 = updB b 55 (va_cpy (b 32) (b 55) 0 0 40) := ⟨_, rfl⟩
  rw [← eb1]
  obtain ⟨b2, eb2⟩ : ∃ b2, b2 = updB b1 56 (va_cpy (b1 35) (b1 56) 0 0 64) := ⟨_, rfl⟩
  rw [← eb2]
  have n1 : ∀ q, q ≠ 49 → a1 q = a q := fun q hq => by rw [ea1, updA_ne hq]
  have n2 : ∀ q, q ≠ 50 → a2 q = a1 q := fun q hq => by rw [ea2, updA_ne hq]
  have n3 : ∀ q, q ≠ 51 → a3 q = a2 q := fun q hq => by rw [ea3, updA_ne hq]
  have n4 : ∀ q, q ≠ 52 → a4 q = a3 q := fun q hq => by rw [ea4, updA_ne hq]
  have n14 : ∀ q, q ∉ [49, 50, 51, 52] → a4 q = a q := fun q hq => (n4 q (nm_ne hq (by decide))).trans ((n3 q (nm_ne hq (by decide))).trans ((n2 q (nm_ne hq (by decide))).trans (n1 q (nm_ne hq (by decide)))))
  have m1 : ∀ q, q ≠ 55 → b1 q = b q := fun q hq => by rw [eb1, updB_ne hq]
  have m2 : ∀ q, q ≠ 56 → b2 q = b1 q := fun q hq => by rw [eb2, updB_ne hq]
  obtain ⟨a5, f5, k1, k2, k3, k4⟩ := keep_l (n := n) (i := i) (j := j) (b := b2) 7 0 n a4 (by omega) (by omega)
  rw [show (0 : Int32) = nI 0 from rfl, k1, m_Model_keep_b93, if_pos (by decide)]
  have e45 : a5 45 = a 45 := (k2 45 (by decide)).trans (n14 45 (by decide))
  have u54 : ∀ q, q ≠ 54 → ∀ r, updA a5 54 r q = a5 q := fun q hq r => updA_ne hq
  rw [show (4096 : Int32) = nI 4096 from rfl, z _ _ 4096 (by decide), ob1_s, show (2000 : Int32) = nI 2000 from rfl, z _ _ 2000 (by decide), c0, show (nI 4096).toNatClampNeg = 4096 from rfl, show (nI 2000).toNatClampNeg = 2000 from rfl, show (0 : Int32) = nI 0 from rfl, cyb_ok (by decide) (by decide) (fun x hx => by rw [u54 45 (by decide), e45, Nat.zero_add]; exact h45 x hx)]
  simp only [ob1_s]
  obtain ⟨a6, ea6⟩ : ∃ a6, a6 = updA a5 54 (va_cpy (a5 44) (a5 54) 0 0 4096) := ⟨_, rfl⟩
  rw [← ea6]
  obtain ⟨a7, ea7⟩ : ∃ a7, a7 = updA a6 57 (va_cpy (a6 45) (a6 57) 0 0 2000) := ⟨_, rfl⟩
  rw [← ea7]
  have n6 : ∀ q, q ≠ 54 → a6 q = a5 q := fun q hq => by rw [ea6, updA_ne hq]
  have n7 : ∀ q, q ≠ 57 → a7 q = a6 q := fun q hq => by rw [ea7, updA_ne hq]
  have n17 : ∀ q, q ∉ [49, 50, 51, 52, 53, 54, 57] → a7 q = a q := fun q hq => (n7 q (nm_ne hq (by decide))).trans ((n6 q (nm_ne hq (by decide))).trans ((k2 q (nm_ne hq (by decide))).trans (n14 q (fun hm => hq ((show ∀ q ∈ [49, 50, 51, 52], q ∈ [49, 50, 51, 52, 53, 54, 57] by decide) q hm)))))
  have up5 : ∀ q, q ∈ [49, 50, 51, 52] → a7 q = a4 q := fun q hq => (n7 q (fun e => by subst e; revert hq; decide)).trans ((n6 q (fun e => by subst e; revert hq; decide)).trans (k2 q (fun e => by subst e; revert hq; decide)))
  have p49 : ∀ x, x < 40 → a7 49 x = a 29 x := fun x hx => by
    rw [up5 49 (by decide), n4 49 (by decide), n3 49 (by decide), n2 49 (by decide), ea1, updA_at, pk_cpy_in (Nat.zero_le _) (by omega), Nat.zero_add, Nat.sub_zero]
  have p50 : ∀ x, x < 40 → a7 50 x = a 30 x := fun x hx => by
    rw [up5 50 (by decide), n4 50 (by decide), n3 50 (by decide), ea2, updA_at, pk_cpy_in (Nat.zero_le _) (by omega), Nat.zero_add, Nat.sub_zero, n1 30 (by decide)]
  have p51 : ∀ x, x < 200 → a7 51 x = a 31 x := fun x hx => by
    rw [up5 51 (by decide), n4 51 (by decide), ea3, updA_at, pk_cpy_in (Nat.zero_le _) (by omega), Nat.zero_add, Nat.sub_zero, n2 31 (by decide), n1 31 (by decide)]
  have p52 : ∀ x, x < 64 → a7 52 x = a 34 x := fun x hx => by
    rw [up5 52 (by decide), ea4, updA_at, pk_cpy_in (Nat.zero_le _) (by omega), Nat.zero_add, Nat.sub_zero, n3 34 (by decide), n2 34 (by decide), n1 34 (by decide)]
  have p55 : ∀ x, x < 40 → b2 55 x = b 32 x := fun x hx => by
    rw [m2 55 (by decide), eb1, updB_same, pk_cpy_in (Nat.zero_le _) (by omega), Nat.zero_add, Nat.sub_zero]
  have p56 : ∀ x, x < 64 → b2 56 x = b 35 x := fun x hx => by
    rw [eb2, updB_same, pk_cpy_in (Nat.zero_le _) (by omega), Nat.zero_add, Nat.sub_zero, m1 35 (by decide)]
  have p53 : ∀ k t, k < 7 → t < 8 → a7 53 (8 * k + t) = a (37 + k) t := fun k t hk ht => by
    rw [n7 53 (by decide), n6 53 (by decide), k4 k t (Nat.zero_le _) hk ht, n14 _ (by simp; omega)]
  have p54 : ∀ x, x < 4096 → a7 54 x = a 44 x := fun x hx => by
    rw [n7 54 (by decide), ea6, updA_at, pk_cpy_in (Nat.zero_le _) (by omega), Nat.zero_add, Nat.sub_zero, k2 44 (by decide), n14 44 (by decide)]
  have p57 : ∀ x, x < 2000 → a7 57 x = a 45 x := fun x hx => by
    rw [ea7, updA_at, pk_cpy_in (Nat.zero_le _) (by omega), Nat.zero_add, Nat.sub_zero, n6 45 (by decide), e45]
  refine ⟨_, _, a7, b2, rfl, ⟨⟨fun x hx => ⟨p49 x hx, p50 x hx, p55 x hx⟩, p51, fun x hx => ⟨p52 x hx, p56 x hx⟩⟩, ⟨p53, p54, p57⟩, ⟨rfl, rfl, rfl, rfl, rfl, rfl, rfl, rfl, rfl⟩⟩, fun q hq => ?_, fun q hq => updL_ne hq, n17, fun q q1 q2 => (m2 q q2).trans (m1 q q1)⟩
  rw [upd_ne (by omega), upd_ne (by omega), upd_ne (by omega), upd_ne (by omega), upd_ne (by omega), upd_ne (by omega), upd_ne (by omega), upd_ne (by omega)]

