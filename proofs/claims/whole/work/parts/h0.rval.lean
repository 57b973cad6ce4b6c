/-! values as the reference holds them -/
def vN (z : Int) : Int64 := Int64.ofInt (4 * z)
def vW (w : Nat) : Int64 := Int64.ofInt (4 * (w : Int) + 1)
def vL (l : Nat) : Int64 := Int64.ofInt (4 * (l : Int) + 2)
def v0 : Int64 := Int64.ofInt 3
theorem i64_tn (z : Int) : (Int64.ofInt z).toBitVec.toNat = (z % 18446744073709551616).toNat := by
  show (BitVec.ofInt 64 z).toNat = _
  rw [BitVec.toNat_ofInt]
  rfl
theorem i64_ti {z : Int} (h1 : -9000000000000000000 ≤ z) (h2 : z ≤ 9000000000000000000) : (Int64.ofInt z).toInt = z := Int64.toInt_ofInt_of_le (by show -9223372036854775808 ≤ _; omega) (by show _ < 9223372036854775808; omega)
theorem k64 (z : Int) : (Int64.ofInt z &&& 3).toInt32 = Int32.ofInt (z % 4) := by
  have e : Int64.ofInt z &&& 3 = Int64.ofInt (z % 4) := by
    apply Int64.toBitVec_inj.mp
    apply BitVec.eq_of_toNat_eq
    rw [Int64.toBitVec_and, BitVec.toNat_and, i64_tn, i64_tn, show ((3 : Int64).toBitVec.toNat) = 2 ^ 2 - 1 from rfl, Nat.and_two_pow_sub_one_eq_mod]
    omega
  rw [e, Int64.toInt32_ofInt]
theorem l_shr (x s : Int64) (k : Nat) (hs : (s.toBitVec.smod 64).toNat = k) : (x >>> s).toInt = x.toInt >>> k := by
  show (x.toBitVec.sshiftRight' (s.toBitVec.smod 64)).toInt = x.toBitVec.toInt >>> k
  rw [BitVec.sshiftRight', hs, BitVec.toInt_sshiftRight]
theorem s64 {z : Int} (h1 : -9000000000000000000 ≤ z) (h2 : z ≤ 9000000000000000000) : (Int64.ofInt z >>> ((2 : Int32).toInt64 &&& 63)).toInt32 = Int32.ofInt (z / 4) := by
  have e : Int64.ofInt z >>> ((2 : Int32).toInt64 &&& 63) = Int64.ofInt (z / 4) := by
    apply Int64.toInt_inj.mp
    rw [l_shr _ _ 2 (by decide), i64_ti h1 h2, i64_ti (by omega) (by omega), Int.shiftRight_eq_div_pow]
    rfl
  rw [e, Int64.toInt32_ofInt]
theorem l_shl (x s : Int64) (k : Nat) (hs : (s.toBitVec.smod 64).toNat = k) : (x <<< s).toBitVec.toNat = x.toBitVec.toNat * 2 ^ k % 2 ^ 64 := by
  show (x.toBitVec <<< (s.toBitVec.smod 64)).toNat = _
  rw [BitVec.shiftLeft_eq', hs, BitVec.toNat_shiftLeft, Nat.shiftLeft_eq]
theorem u64 {z : Int} (h1 : -2147483648 ≤ z) (h2 : z ≤ 2147483647) (r : Nat) (hr : r < 4) : ((Int32.ofInt z).toInt64 <<< ((2 : Int32).toInt64 &&& 63)) ||| Int64.ofInt r = Int64.ofInt (4 * z + r) := by
  apply Int64.toBitVec_inj.mp
  apply BitVec.eq_of_toNat_eq
  rw [Int64.toBitVec_or, BitVec.toNat_or, l_shl _ _ 2 (by decide), i32_64 h1 h2, i64_tn, i64_tn, i64_tn]
  have e : (z % 18446744073709551616).toNat * 2 ^ 2 % 2 ^ 64 = ((4 * z) % 18446744073709551616).toNat := by omega
  rw [e]
  have e2 : ((4 * z) % 18446744073709551616).toNat = (((4 * z) % 18446744073709551616).toNat / 4) <<< 2 := by
    rw [Nat.shiftLeft_eq]; omega
  have e3 : ((r : Int) % 18446744073709551616).toNat = r := by omega
  rw [e3, e2, ← Nat.shiftLeft_add_eq_or_of_lt (show r < 2 ^ 2 by omega), ← e2]
  omega
theorem r_kind {n : Nat} (z : Int) : m_Model_kindOf n (Int64.ofInt z) = some (Int32.ofInt (z % 4)) := by
  unfold m_Model_kindOf
  rw [k64]
theorem kN (z : Int) : (4 * z) % 4 = 0 := by omega
theorem kW (z : Int) : (4 * z + 1) % 4 = 1 := by omega
theorem kL (z : Int) : (4 * z + 2) % 4 = 2 := by omega
theorem r_whatN {n : Nat} {z : Int} (h1 : -1000000000 ≤ z) (h2 : z ≤ 1000000000) : m_Model_what n (vN z) = some (Int32.ofInt z) := by
  unfold m_Model_what vN
  rw [s64 (by omega) (by omega), show 4 * z / 4 = z by omega]
theorem r_whatW {n w : Nat} (h : w < 2147483648) : m_Model_what n (vW w) = some (nI w) := by
  unfold m_Model_what vW
  rw [s64 (by omega) (by omega), show (4 * (w : Int) + 1) / 4 = w by omega]
  rfl
theorem r_whatL {n w : Nat} (h : w < 2147483648) : m_Model_what n (vL w) = some (nI w) := by
  unfold m_Model_what vL
  rw [s64 (by omega) (by omega), show (4 * (w : Int) + 2) / 4 = w by omega]
  rfl
theorem r_isN (n : Nat) (z : Int) : m_Model_isNumber n (vN z) = some 1 ∧ m_Model_isWord n (vN z) = some 0 ∧ m_Model_isList n (vN z) = some 0 := by
  unfold m_Model_isNumber m_Model_isWord m_Model_isList vN
  rw [r_kind, kN]
  exact ⟨rfl, rfl, rfl⟩
theorem r_isW (n w : Nat) : m_Model_isNumber n (vW w) = some 0 ∧ m_Model_isWord n (vW w) = some 1 ∧ m_Model_isList n (vW w) = some 0 := by
  unfold m_Model_isNumber m_Model_isWord m_Model_isList vW
  rw [r_kind, kW]
  exact ⟨rfl, rfl, rfl⟩
theorem r_isL (n w : Nat) : m_Model_isNumber n (vL w) = some 0 ∧ m_Model_isWord n (vL w) = some 0 ∧ m_Model_isList n (vL w) = some 1 := by
  unfold m_Model_isNumber m_Model_isWord m_Model_isList vL
  rw [r_kind, kL]
  exact ⟨rfl, rfl, rfl⟩
theorem r_number {n : Nat} {z : Int} (h1 : -1000000000 ≤ z) (h2 : z ≤ 1000000000) : m_Model_number n (Int32.ofInt z) = some (vN z) := by
  unfold m_Model_number vN
  have := u64 (z := z) (by omega) (by omega) 0 (by decide)
  rw [show Int64.ofInt ((0 : Nat) : Int) = 0 from rfl, Int64.or_zero] at this
  rw [this]
  congr 2
  omega
theorem r_wordValue {n w : Nat} (h : w < 1000000) : m_Model_wordValue n (nI w) = some (vW w) := by
  unfold m_Model_wordValue vW
  have := u64 (z := w) (by omega) (by omega) 1 (by decide)
  rw [nI_ofInt]
  congr 1
theorem r_listValue {n w : Nat} (h : w < 1000000) : m_Model_listValue n (nI w) = some (vL w) := by
  unfold m_Model_listValue vL
  have := u64 (z := w) (by omega) (by omega) 2 (by decide)
  rw [nI_ofInt]
  congr 1
theorem v_ne {x y : Int} (hx : -9000000000000000000 ≤ x ∧ x ≤ 9000000000000000000) (hy : -9000000000000000000 ≤ y ∧ y ≤ 9000000000000000000) : Int64.ofInt x = Int64.ofInt y ↔ x = y := by
  constructor
  · intro e
    have := congrArg Int64.toInt e
    rw [i64_ti hx.1 hx.2, i64_ti hy.1 hy.2] at this
    exact this
  · intro e; rw [e]
/-- how much there is: words, letters, lists, cells -/
abbrev RB4 : Type := Nat × Nat × Nat × Nat
/-- a word by its number -/
def rW (a : Nat → Nat → Int32) (B : RB4) (w : Nat) (l : List Nat) : Prop := w < B.1 ∧ B.1 ≤ 120000 ∧ B.2.1 ≤ 300000 ∧ l ≠ [] ∧ l.length ≤ 30 ∧ okLs l ∧ a 4 w = nI l.length ∧ ∃ p, a 3 w = nI p ∧ p + l.length ≤ B.2.1 ∧ ∀ k (h : k < l.length), a 1 (p + k) = nI (l[k]'h)
/-- how many numbers, words and lists it is made of -/
def tNd : Tr → Nat
  | .nest _ _ => 1
  | .tag _ _ => 1
  | .nil => 1
  | .append m t => tNd m + tNd t
  | _ => 0
theorem tNd_le : ∀ (t : Tr), (tOk t 0 → 1 ≤ tNd t ∧ tDp t ≤ tNd t ∧ tNd t ≤ tSz t) ∧ (tOk t 2 → 1 ≤ tNd t ∧ tDp t ≤ tNd t ∧ tNd t ≤ tSz t) := by
  intro t
  induction t with
  | nest n t _ => exact ⟨fun _ => ⟨Nat.le_refl _, Nat.zero_le _, Nat.le_refl _⟩, fun h => h.elim⟩
  | tag c t _ => exact ⟨fun _ => ⟨Nat.le_refl _, Nat.zero_le _, by show 1 ≤ tSz t + 1; omega⟩, fun h => h.elim⟩
  | nil => exact ⟨fun _ => ⟨Nat.le_refl _, Nat.le_refl _, Nat.le_refl _⟩, fun _ => ⟨Nat.le_refl _, Nat.le_refl _, Nat.le_refl _⟩⟩
  | append m t ihm iht =>
    have key : tOk m 0 → tOk t 2 → 1 ≤ tNd m + tNd t ∧ max (tDp m + 1) (tDp t) ≤ tNd m + tNd t ∧ tNd m + tNd t ≤ tSz m + tSz t := fun h1 h2 => by
      obtain ⟨a1, a2, a3⟩ := ihm.1 h1
      obtain ⟨b1, b2, b3⟩ := iht.2 h2
      omega
    exact ⟨fun h => key h.1 h.2, fun h => key h.1 h.2⟩
  | _ => exact ⟨fun h => h.elim, fun h => h.elim⟩
def rH (a : Nat → Nat → Int32) (B : RB4) (l p count size nd sl : Nat) : Prop := l < B.2.2.1 ∧ B.2.2.1 ≤ 90000 ∧ B.2.2.2 ≤ 90000 ∧ a 12 l = nI p ∧ a 13 l = nI count ∧ a 14 l = nI size ∧ p + count ≤ B.2.2.2 ∧ size ≤ 5000 ∧ nd ≤ 1200 ∧ sl ≤ 8000
def rV (a : Nat → Nat → Int32) (b : Nat → Nat → Int64) (B : RB4) : Tr → Option Nat → Int64 → Prop
  | .nest n t, none, v => t = .nil ∧ -1000000000 ≤ n ∧ n ≤ 1000000000 ∧ v = vN n
  | .tag c t, none, v => ∃ w, v = vW w ∧ t = tW (tLet t) ∧ rW a B w (c :: tLet t)
  | .nil, none, v => ∃ l p, v = vL l ∧ rH a B l p 0 1 1 2
  | .append m t, none, v => ∃ l p, v = vL l ∧ rH a B l p ((tMem t).length + 1) (tSz m + tSz t) (tNd m + tNd t) (tSl (.append m t)) ∧ rV a b B m none (b 10 p) ∧ rV a b B t (some (p + 1)) 0
  | .nil, some _, _ => True
  | .append m t, some p, _ => rV a b B m none (b 10 p) ∧ rV a b B t (some (p + 1)) 0
  | _, _, _ => False
theorem rV_as {a : Nat → Nat → Int32} {b : Nat → Nat → Int64} {B : RB4} {p : Nat} {m t : Tr} {v : Int64} : rV a b B (.append m t) (some p) v = (rV a b B m none (b 10 p) ∧ rV a b B t (some (p + 1)) 0) := rfl
theorem rV_an {a : Nat → Nat → Int32} {b : Nat → Nat → Int64} {B : RB4} {m t : Tr} {v : Int64} : rV a b B (.append m t) none v = ∃ l p, v = vL l ∧ rH a B l p ((tMem t).length + 1) (tSz m + tSz t) (tNd m + tNd t) (tSl (.append m t)) ∧ rV a b B m none (b 10 p) ∧ rV a b B t (some (p + 1)) 0 := rfl
theorem rV_tN {a : Nat → Nat → Int32} {b : Nat → Nat → Int64} {B : RB4} {n : Int} {v : Int64} : rV a b B (tN n) none v ↔ -1000000000 ≤ n ∧ n ≤ 1000000000 ∧ v = vN n := by
  unfold tN rV
  exact ⟨fun h => h.2, fun h => ⟨rfl, h⟩⟩
theorem rV_tW {a : Nat → Nat → Int32} {b : Nat → Nat → Int64} {B : RB4} {l : List Nat} {v : Int64} : rV a b B (tW l) none v ↔ ∃ w, v = vW w ∧ rW a B w l := by
  cases l with
  | nil =>
    constructor
    · intro h; exact absurd h (by unfold tW rV; exact id)
    · rintro ⟨p, _, h⟩; exact absurd rfl h.2.2.2.1
  | cons c l =>
    show rV a b B (.tag c (tW l)) none v ↔ _
    unfold rV
    rw [tLet_tW]
    constructor
    · rintro ⟨p, h1, _, h2⟩; exact ⟨p, h1, h2⟩
    · rintro ⟨p, h1, h2⟩; exact ⟨p, h1, rfl, h2⟩
theorem rV_ch {a : Nat → Nat → Int32} {b : Nat → Nat → Int64} {B : RB4} : ∀ (ms : List Tr) (p : Nat) (v : Int64), rV a b B (tL ms) (some p) v ↔ ∀ k (h : k < ms.length), rV a b B (ms[k]'h) none (b 10 (p + k)) := by
  intro ms
  induction ms with
  | nil => intro p v; exact ⟨fun _ k h => absurd h (Nat.not_lt_zero k), fun _ => trivial⟩
  | cons m ms ih =>
    intro p v
    show rV a b B (.append m (tL ms)) (some p) v ↔ _
    rw [rV_as, ih]
    constructor
    · rintro ⟨h1, h2⟩ k hk
      cases k with
      | zero => exact h1
      | succ k =>
        have := h2 k (by simp at hk; omega)
        rw [show p + 1 + k = p + (k + 1) by omega] at this
        exact this
    · intro h
      refine ⟨h 0 (by simp), fun k hk => ?_⟩
      have := h (k + 1) (by simp; omega)
      rw [show p + (k + 1) = p + 1 + k by omega] at this
      exact this
theorem rV_tL {a : Nat → Nat → Int32} {b : Nat → Nat → Int64} {B : RB4} {ms : List Tr} {v : Int64} : rV a b B (tL ms) none v ↔ ∃ l p, v = vL l ∧ rH a B l p ms.length (tSz (tL ms)) (tNd (tL ms)) (tSl (tL ms)) ∧ ∀ k (h : k < ms.length), rV a b B (ms[k]'h) none (b 10 (p + k)) := by
  cases ms with
  | nil =>
    show rV a b B .nil none v ↔ _
    unfold rV
    constructor
    · rintro ⟨l, p, h1, h2⟩; exact ⟨l, p, h1, h2, fun k h => absurd h (Nat.not_lt_zero k)⟩
    · rintro ⟨l, p, h1, h2, _⟩; exact ⟨l, p, h1, h2⟩
  | cons m ms =>
    show rV a b B (.append m (tL ms)) none v ↔ _
    rw [rV_an]
    constructor
    · rintro ⟨l, p, h1, h2, h3, h4⟩
      rw [tMem_tL] at h2
      refine ⟨l, p, h1, h2, fun k hk => ?_⟩
      rw [rV_ch] at h4
      cases k with
      | zero => exact h3
      | succ k =>
        have := h4 k (by simp at hk; omega)
        rw [show p + 1 + k = p + (k + 1) by omega] at this
        exact this
    · rintro ⟨l, p, h1, h2, h3⟩
      refine ⟨l, p, h1, by rw [tMem_tL]; exact h2, h3 0 (by simp), ?_⟩
      rw [rV_ch]
      intro k hk
      have := h3 (k + 1) (by simp; omega)
      rw [show p + (k + 1) = p + 1 + k by omega] at this
      exact this
theorem rV_chain {a : Nat → Nat → Int32} {b : Nat → Nat → Int64} {B : RB4} {t : Tr} : ∀ {p : Nat} {v : Int64}, rV a b B t (some p) v → ∃ l, t = tL l := by
  induction t with
  | nil => intro p v h; exact ⟨[], rfl⟩
  | append m t _ ih =>
    intro p v h
    rw [rV_as] at h
    obtain ⟨l, rfl⟩ := ih h.2
    exact ⟨m :: l, rfl⟩
  | _ => intro p v h; exact h.elim
theorem rV_cases {a : Nat → Nat → Int32} {b : Nat → Nat → Int64} {B : RB4} {t : Tr} {v : Int64} (h : rV a b B t none v) : (∃ n, t = tN n ∧ -1000000000 ≤ n ∧ n ≤ 1000000000 ∧ v = vN n) ∨ (∃ l w, t = tW l ∧ v = vW w ∧ rW a B w l) ∨ (∃ ms l p, t = tL ms ∧ v = vL l ∧ rH a B l p ms.length (tSz (tL ms)) (tNd (tL ms)) (tSl (tL ms)) ∧ ∀ k (h : k < ms.length), rV a b B (ms[k]'h) none (b 10 (p + k))) := by
  cases t with
  | nest n t => obtain ⟨rfl, h1, h2, h3⟩ := h; exact Or.inl ⟨n, rfl, h1, h2, h3⟩
  | tag c t =>
    obtain ⟨p, h1, h2, h3⟩ := h
    exact Or.inr (Or.inl ⟨c :: tLet t, p, by rw [h2, tLet_tW]; rfl, h1, h3⟩)
  | nil =>
    obtain ⟨l, p, h1⟩ := (rV_tL (ms := [])).mp h
    exact Or.inr (Or.inr ⟨[], l, p, rfl, h1⟩)
  | append m t =>
    have q : ∃ l, t = tL l := by
      obtain ⟨_, p, _, _, _, h4⟩ := h
      exact rV_chain h4
    obtain ⟨l, rfl⟩ := q
    obtain ⟨l9, p, h1⟩ := (rV_tL (ms := m :: l)).mp h
    exact Or.inr (Or.inr ⟨m :: l, l9, p, rfl, h1⟩)
  | _ => exact h.elim
/-- more of everything, the old as it was -/
def rUp (a : Nat → Nat → Int32) (b : Nat → Nat → Int64) (B : RB4) (a' : Nat → Nat → Int32) (b' : Nat → Nat → Int64) (B' : RB4) : Prop := (B.1 ≤ B'.1 ∧ B'.1 ≤ 120000 ∧ B.2.1 ≤ B'.2.1 ∧ B'.2.1 ≤ 300000 ∧ B.2.2.1 ≤ B'.2.2.1 ∧ B'.2.2.1 ≤ 90000 ∧ B.2.2.2 ≤ B'.2.2.2 ∧ B'.2.2.2 ≤ 90000) ∧ (∀ x, x < B.1 → a' 3 x = a 3 x ∧ a' 4 x = a 4 x) ∧ (∀ x, x < B.2.1 → a' 1 x = a 1 x) ∧ (∀ x, x < B.2.2.1 → a' 12 x = a 12 x ∧ a' 13 x = a 13 x ∧ a' 14 x = a 14 x) ∧ (∀ x, x < B.2.2.2 → b' 10 x = b 10 x)
theorem rW_up {a a' : Nat → Nat → Int32} {b b' : Nat → Nat → Int64} {B B' : RB4} {w : Nat} {l : List Nat} (hu : rUp a b B a' b' B') (h : rW a B w l) : rW a' B' w l := by
  obtain ⟨⟨u1, u2, u3, u4, u5, u6, u7, u8⟩, u9, u10, u11, u12⟩ := hu
  obtain ⟨h1, h2, h3, h4, h5, h6, h7, p, h8, h9, h10⟩ := h
  refine ⟨by omega, u2, u4, h4, h5, h6, (u9 w h1).2.trans h7, p, (u9 w h1).1.trans h8, by omega, fun k hk => ?_⟩
  rw [u10 _ (by omega)]
  exact h10 k hk
theorem rH_up {a a' : Nat → Nat → Int32} {b b' : Nat → Nat → Int64} {B B' : RB4} {l p c s d z : Nat} (hu : rUp a b B a' b' B') (h : rH a B l p c s d z) : rH a' B' l p c s d z := by
  obtain ⟨⟨u1, u2, u3, u4, u5, u6, u7, u8⟩, u9, u10, u11, u12⟩ := hu
  obtain ⟨h1, h2, h3, h4, h5, h6, h7, h8⟩ := h
  obtain ⟨e1, e2, e3⟩ := u11 l h1
  exact ⟨by omega, u6, u8, e1.trans h4, e2.trans h5, e3.trans h6, by omega, h8⟩
theorem rV_up {a a' : Nat → Nat → Int32} {b b' : Nat → Nat → Int64} {B B' : RB4} (hu : rUp a b B a' b' B') : ∀ (t : Tr), (∀ v, rV a b B t none v → rV a' b' B' t none v) ∧ (∀ p v, p + (tMem t).length ≤ B.2.2.2 → rV a b B t (some p) v → rV a' b' B' t (some p) v) := by
  intro t
  induction t with
  | nest n t _ => exact ⟨fun v h => h, fun p v _ h => h.elim⟩
  | tag c t _ =>
    refine ⟨fun v h => ?_, fun p v _ h => h.elim⟩
    obtain ⟨w, h1, h2, h3⟩ := h
    exact ⟨w, h1, h2, rW_up hu h3⟩
  | nil =>
    refine ⟨fun v h => ?_, fun p v _ h => trivial⟩
    obtain ⟨l, p, h1, h2⟩ := h
    exact ⟨l, p, h1, rH_up hu h2⟩
  | append m t ihm iht =>
    constructor
    · intro v h
      rw [rV_an] at h ⊢
      obtain ⟨l, p, h1, h2, h3, h4⟩ := h
      have h7 := h2.2.2.2.2.2.2.1
      refine ⟨l, p, h1, rH_up hu h2, ?_, iht.2 _ _ (by omega) h4⟩
      rw [hu.2.2.2.2 _ (by omega)]
      exact ihm.1 _ h3
    · intro p v hp h
      rw [rV_as] at h ⊢
      have e : (tMem (.append m t)).length = (tMem t).length + 1 := rfl
      rw [e] at hp
      refine ⟨?_, iht.2 _ _ (by omega) h.2⟩
      rw [hu.2.2.2.2 _ (by omega)]
      exact ihm.1 _ h.1
  | _ => exact ⟨fun v h => h.elim, fun p v _ h => h.elim⟩
theorem rUp_trans {a a' a2 : Nat → Nat → Int32} {b b' b2 : Nat → Nat → Int64} {B B' B2 : RB4} (h : rUp a b B a' b' B') (h' : rUp a' b' B' a2 b2 B2) : rUp a b B a2 b2 B2 := by
  obtain ⟨⟨u1, u2, u3, u4, u5, u6, u7, u8⟩, u9, u10, u11, u12⟩ := h
  obtain ⟨⟨w1, w2, w3, w4, w5, w6, w7, w8⟩, w9, w10, w11, w12⟩ := h'
  refine ⟨⟨by omega, w2, by omega, w4, by omega, w6, by omega, w8⟩, fun x hx => ?_, fun x hx => (w10 x (by omega)).trans (u10 x hx), fun x hx => ?_, fun x hx => (w12 x (by omega)).trans (u12 x hx)⟩
  · obtain ⟨e1, e2⟩ := w9 x (by omega)
    obtain ⟨f1, f2⟩ := u9 x hx
    exact ⟨e1.trans f1, e2.trans f2⟩
  · obtain ⟨e1, e2, e3⟩ := w11 x (by omega)
    obtain ⟨f1, f2, f3⟩ := u11 x hx
    exact ⟨e1.trans f1, e2.trans f2, e3.trans f3⟩
/-! the leaf methods -/
theorem r_kinds {a : Nat → Nat → Int32} {b : Nat → Nat → Int64} {B : RB4} {t : Tr} {v : Int64} (n : Nat) (h : rV a b B t none v) : m_Model_isNumber n v = some (b1 (isN t)) ∧ m_Model_isWord n v = some (b1 (isW t)) ∧ m_Model_isList n v = some (b1 (isL t)) := by
  rcases rV_cases h with ⟨k, rfl, _, _, rfl⟩ | ⟨l, w, rfl, rfl, h3⟩ | ⟨ms, l, p, rfl, rfl, h3, h4⟩
  · rw [isN_tN, isW_tN, isL_tN]; exact r_isN n k
  · rw [isN_tW, isW_tW, isL_tW]; exact r_isW n w
  · rw [isN_tL, isW_tL, isL_tL]; exact r_isL n l
theorem r_sizeOf {n : Nat} {i : Nat → Int32} {j : Nat → Int64} {a : Nat → Nat → Int32} {b : Nat → Nat → Int64} {B : RB4} {t : Tr} {v : Int64} (h : rV a b B t none v) : m_Model_sizeOf n i j a b v = some (nI (tSz t)) := by
  obtain ⟨k1, k2, k3⟩ := r_kinds n h
  unfold m_Model_sizeOf
  rw [k1, ob0_s, k2]
  rcases rV_cases h with ⟨k, rfl, _, _, rfl⟩ | ⟨l, w, rfl, rfl, h3⟩ | ⟨ms, l, p, rfl, rfl, h3, h4⟩
  · rfl
  · rw [isN_tW, isW_tW, if_pos (show b1 false = (0 : Int32) from rfl), ob0_s, if_neg (show ¬ b1 true = (0 : Int32) from fun e => absurd ((nI_eq (a := 1) (b := 0) (by omega) (by omega)).mp e) (by decide)), r_whatW (by have := h3.1; have := h3.2.1; omega), ob0_s, ck_n (by have := h3.1; have := h3.2.1; omega), cl_n (by have := h3.1; have := h3.2.1; omega), h3.2.2.2.2.2.2.1, tSz_tW]
  · rw [isN_tL, isW_tL, if_pos (show b1 false = (0 : Int32) from rfl), ob0_s, if_pos (show b1 false = (0 : Int32) from rfl), r_whatL (by have := h3.1; have := h3.2.1; omega), ob0_s, ck_n (by have := h3.1; have := h3.2.1; omega), cl_n (by have := h3.1; have := h3.2.1; omega), h3.2.2.2.2.2.1]
theorem r_size {n : Nat} {i : Nat → Int32} {j : Nat → Int64} {a : Nat → Nat → Int32} {b : Nat → Nat → Int64} {B : RB4} {ms : List Tr} {v : Int64} (h : rV a b B (tL ms) none v) : m_Model_size n i j a b v = some (nI ms.length) := by
  obtain ⟨l, p, rfl, h3, h4⟩ := rV_tL.mp h
  unfold m_Model_size
  rw [r_whatL (by have := h3.1; have := h3.2.1; omega), ob0_s, ck_n (by have := h3.1; have := h3.2.1; omega), cl_n (by have := h3.1; have := h3.2.1; omega), h3.2.2.2.2.1]
theorem r_member {n : Nat} {i : Nat → Int32} {j : Nat → Int64} {a : Nat → Nat → Int32} {b : Nat → Nat → Int64} {B : RB4} {ms : List Tr} {v : Int64} (h : rV a b B (tL ms) none v) {k : Nat} (hk : k < ms.length) : ∃ x, m_Model_member n i j a b v (nI k) = some x ∧ rV a b B (ms[k]'hk) none x := by
  obtain ⟨l, p, rfl, h3, h4⟩ := rV_tL.mp h
  obtain ⟨g1, g2, g3, g4, g5, g6, g7, g8⟩ := h3
  refine ⟨b 10 (p + k), ?_, h4 k hk⟩
  unfold m_Model_member
  rw [r_whatL (by omega), ob0_s, ck_n (by omega), cl_n (by omega), g4, nI_add, ck_n (by omega), cl_n (by omega)]
theorem r_same_b {n : Nat} {i : Nat → Int32} {j : Nat → Int64} {a : Nat → Nat → Int32} {b : Nat → Nat → Int64} {p q : Nat} {l r : List Nat} (hp : p + l.length ≤ 300000) (hq : q + r.length ≤ 300000) (hl : l.length = r.length) (hlok : okLs l) (hrok : okLs r) (h1 : ∀ k (h : k < l.length), a 1 (p + k) = nI (l[k]'h)) (h2 : ∀ k (h : k < r.length), a 1 (q + k) = nI (r[k]'h)) : ∀ (m k f : Nat), l.length = k + m → m < f → (∀ x, x < k → l[x]? = r[x]?) → m_Model_sameLetters_b11 n i j a b f (nI p) (nI l.length) (nI q) (nI k) = some (b1 (decide (l = r))) := by
  intro m
  induction m with
  | zero =>
    intro k f e hf hx
    obtain ⟨f, rfl⟩ : ∃ f', f = f' + 1 := ⟨f - 1, by omega⟩
    have elr : l = r := by
      apply List.ext_getElem?
      intro x
      rcases Nat.lt_or_ge x k with c | c
      · exact hx x c
      · rw [List.getElem?_eq_none (by omega), List.getElem?_eq_none (by omega)]
    rw [m_Model_sameLetters_b11, ile_p (by omega), decide_eq_true elr]
    rfl
  | succ m ih =>
    intro k f e hf hx
    obtain ⟨f, rfl⟩ : ∃ f', f = f' + 1 := ⟨f - 1, by omega⟩
    have hk : k < l.length := by omega
    have hk2 : k < r.length := by omega
    rw [m_Model_sameLetters_b11, ile_n (by omega), nI_add, nI_add, ck_n (by omega), ck_n (by omega), cl_n (by omega), cl_n (by omega), h1 k hk, h2 k hk2]
    have b1' := (hlok _ (List.getElem_mem hk)).2
    have b2' := (hrok _ (List.getElem_mem hk2)).2
    rcases Classical.em (l[k] = r[k]) with c | c
    · rw [ieq_p c, ob1_s, show (1 : Int32) = nI 1 from rfl, nI_add]
      refine ih (k + 1) f (by omega) (by omega) (fun x hx2 => ?_)
      rcases Nat.eq_or_lt_of_le (Nat.le_of_lt_succ hx2) with d | d
      · subst d
        rw [List.getElem?_eq_getElem hk, List.getElem?_eq_getElem hk2, c]
      · exact hx x d
    · rw [ieq_n ⟨c, by omega, by omega⟩, decide_eq_false (fun e => c (by subst e; rfl))]
      rfl
theorem r_sameWord {n : Nat} {i : Nat → Int32} {j : Nat → Int64} {a : Nat → Nat → Int32} {b : Nat → Nat → Int64} {B : RB4} {x y : Nat} {l r : List Nat} (hn : 100 ≤ n) (h : rW a B x l) (h' : rW a B y r) : m_Model_sameWord n i j a b (nI x) (nI y) = some (b1 (decide (l = r))) := by
  obtain ⟨h1, h2, h3, h4, h5, h6, h7, p, h8, h9, h10⟩ := h
  obtain ⟨g1, g2, g3, g4, g5, g6, g7, q, g8, g9, g10⟩ := h'
  unfold m_Model_sameWord m_Model_sameLetters
  rw [ck_n (by omega), ck_n (by omega), ck_n (by omega), ck_n (by omega), cl_n (by omega), cl_n (by omega), h7, h8, g7, g8]
  rcases Classical.em (l.length = r.length) with c | c
  · rw [ieq_p c, show (0 : Int32) = nI 0 from rfl, r_same_b (by omega) (by omega) c h6 g6 h10 g10 l.length 0 n (by omega) (by omega) (fun x hx => absurd hx (Nat.not_lt_zero x)), ob0_s]
    cases decide (l = r)
    · exact cb_n0
    · exact cb_n1
  · rw [ieq_n ⟨c, by omega, by omega⟩, ob0_s, cb_0, decide_eq_false (fun e => c (by rw [e]))]
    rfl

