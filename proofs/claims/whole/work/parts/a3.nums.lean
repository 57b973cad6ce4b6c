/-! numbers: what a walk through a function asks for, by its own rows -/
theorem i32_lit (k : Nat) : (OfNat.ofNat k : Int32) = nI (OfNat.ofNat k) := (rfl)
theorem l64_lit (k : Nat) : (OfNat.ofNat k : Int64) = lN (OfNat.ofNat k) := (rfl)
theorem ile_p {δ : Type} {a b : Nat} {x y : δ} [Decidable (nI a ≤ nI b)] (h : a ≤ b ∧ b < 2147483648) : (if nI a ≤ nI b then x else y) = x := if_pos (nI_le h.1 (by omega))
theorem ile_n {δ : Type} {a b : Nat} {x y : δ} [Decidable (nI a ≤ nI b)] (h : b < a ∧ a < 2147483648) : (if nI a ≤ nI b then x else y) = y := if_neg (nI_ge h.1 (by omega))
theorem ilt_p {δ : Type} {a b : Nat} {x y : δ} [Decidable (nI a < nI b)] (h : a < b ∧ b < 2147483648) : (if nI a < nI b then x else y) = x := if_pos (nI_lt h.1 (by omega))
theorem ilt_n {δ : Type} {a b : Nat} {x y : δ} [Decidable (nI a < nI b)] (h : b ≤ a ∧ a < 2147483648) : (if nI a < nI b then x else y) = y := if_neg (nI_nlt h.1 (by omega))
theorem ieq_p {δ : Type} {a b : Nat} {x y : δ} [Decidable (nI a = nI b)] (h : a = b) : (if nI a = nI b then x else y) = x := if_pos (by rw [h])
theorem ieq_n {δ : Type} {a b : Nat} {x y : δ} [Decidable (nI a = nI b)] (h : a ≠ b ∧ a < 2147483648 ∧ b < 2147483648) : (if nI a = nI b then x else y) = y := if_neg (fun e => h.1 ((nI_eq (by omega) (by omega)).mp e))
theorem ck_n {δ : Type} {k N : Nat} {e : Option δ} (h : k < N ∧ N < 2147483648) : ck (nI k) N e = e := if_neg (nI_in h.1 (by omega))
theorem cl_n {k : Nat} (h : k < 2147483648) : (nI k).toNatClampNeg = k := nI_clamp (by omega)
theorem sub_n {a b : Nat} (h : b ≤ a) : nI a - nI b = nI (a - b) := pk_sub h
theorem cb_n0 {δ : Type} {k : Option δ} : cb (nI 0) k = k := if_pos (Or.inl rfl)
theorem cb_n1 {δ : Type} {k : Option δ} : cb (nI 1) k = k := if_pos (Or.inr rfl)
theorem cb_n {δ : Type} {b : Bool} {k : Option δ} : cb (if b then nI 1 else nI 0) k = k := by
  cases b
  · exact cb_n0
  · exact cb_n1
/-- the places of words and lists -/
theorem sh_w {p : Nat} (h : p < 500000000) : nI (4 * p + 3) >>> (nI 2 &&& nI 31) = nI p := by
  rw [pk_shrN (by omega) _ 2 (by decide)]
  congr 1
  show (4 * p + 3) / 4 = p
  omega
theorem sh_l {p : Nat} (h : p < 500000000) : nI (4 * p + 1) >>> (nI 2 &&& nI 31) = nI p := by
  rw [pk_shrN (by omega) _ 2 (by decide)]
  congr 1
  show (4 * p + 1) / 4 = p
  omega
theorem an3_w {p : Nat} (h : p < 500000000) : nI (4 * p + 3) &&& nI 3 = nI 3 := by
  rw [pk_andN (by omega) 2 (by decide)]
  congr 1
  show (4 * p + 3) % 4 = 3
  omega
theorem an3_l {p : Nat} (h : p < 500000000) : nI (4 * p + 1) &&& nI 3 = nI 1 := by
  rw [pk_andN (by omega) 2 (by decide)]
  congr 1
  show (4 * p + 1) % 4 = 1
  omega
theorem an1_w {p : Nat} (h : p < 500000000) : nI (4 * p + 3) &&& nI 1 = nI 1 := by
  rw [pk_andN (by omega) 1 (by decide)]
  congr 1
  show (4 * p + 3) % 2 = 1
  omega
theorem an1_l {p : Nat} (h : p < 500000000) : nI (4 * p + 1) &&& nI 1 = nI 1 := by
  rw [pk_andN (by omega) 1 (by decide)]
  congr 1
  show (4 * p + 1) % 2 = 1
  omega
theorem tn_or {a b : Nat} (ha : a < 4294967296) (hb : b < 4294967296) : nI a ||| nI b = nI (a ||| b) := by
  apply Int32.toBitVec_inj.mp
  rw [Int32.toBitVec_or]
  apply BitVec.eq_of_toNat_eq
  have h : a ||| b < 2 ^ 32 := Nat.or_lt_two_pow (by omega) (by omega)
  rw [BitVec.toNat_or, pk_tn (by omega), pk_tn (by omega), pk_tn h]
theorem or_pow {a k b : Nat} (hb : b < 2 ^ k) : (a * 2 ^ k) ||| b = a * 2 ^ k + b := by
  rw [Nat.mul_comm, Nat.two_pow_add_eq_or_of_lt hb]
theorem mk_w {p : Nat} (h : p < 500000000) : nI p <<< (nI 2 &&& nI 31) ||| nI 3 = nI (4 * p + 3) := by
  rw [pk_shlN _ 2 (by decide) (by omega), tn_or (by omega) (by omega), or_pow (by decide)]
  congr 1
  omega
theorem mk_l {p : Nat} (h : p < 500000000) : nI p <<< (nI 2 &&& nI 31) ||| nI 1 = nI (4 * p + 1) := by
  rw [pk_shlN _ 2 (by decide) (by omega), tn_or (by omega) (by omega), or_pow (by decide)]
  congr 1
  omega
/-- the head of a list -/
theorem hd_mk {s c : Nat} (hs : s < 131072) (hc : c < 8192) : nI 1073741824 ||| nI s <<< (nI 13 &&& nI 31) ||| nI c = nI (1073741824 + 8192 * s + c) := by
  rw [pk_shlN _ 13 (by decide) (by omega), tn_or (by omega) (by omega)]
  have e : (1073741824 ||| s * 2 ^ 13 : Nat) = 1 * 2 ^ 30 + s * 2 ^ 13 := or_pow (a := 1) (k := 30) (by omega)
  rw [e, tn_or (by omega) (by omega), show 1 * 2 ^ 30 + s * 2 ^ 13 = (131072 + s) * 2 ^ 13 by omega, or_pow (by omega)]
  congr 1
  omega
theorem hd_c {s c : Nat} (hs : s < 131072) (hc : c < 8192) : nI (1073741824 + 8192 * s + c) &&& nI 8191 = nI c := by
  rw [pk_andN (by omega) 13 (by decide)]
  congr 1
  show (1073741824 + 8192 * s + c) % 8192 = c
  omega
theorem hd_s {s c : Nat} (hs : s < 131072) (hc : c < 8192) : (nI (1073741824 + 8192 * s + c) &&& (-nI 1073741825)) >>> (nI 13 &&& nI 31) = nI s := by
  have e : nI (1073741824 + 8192 * s + c) &&& (-nI 1073741825) = nI (8192 * s + c) := by
    apply Int32.toBitVec_inj.mp
    rw [Int32.toBitVec_and]
    apply BitVec.eq_of_toNat_eq
    have q : (-nI 1073741825).toBitVec.toNat = 3221225471 := by decide
    rw [BitVec.toNat_and, q, pk_tn (by omega), pk_tn (by omega)]
    have e1 : (1073741824 + 8192 * s + c : Nat) = 2 ^ 30 ||| (8192 * s + c) := by
      have := or_pow (a := 1) (k := 30) (b := 8192 * s + c) (by omega)
      rw [Nat.one_mul] at this
      omega
    rw [e1, Nat.and_or_distrib_right]
    have e2 : (2 ^ 30 &&& 3221225471 : Nat) = 0 := by decide
    have e3 : (8192 * s + c) &&& 3221225471 = 8192 * s + c := by
      have e4 : (3221225471 : Nat) = 2 * 2 ^ 30 + (2 ^ 30 - 1) := by decide
      rw [e4, ← or_pow (a := 2) (k := 30) (b := 2 ^ 30 - 1) (by decide), Nat.and_or_distrib_left, Nat.and_two_pow_sub_one_eq_mod, Nat.mod_eq_of_lt (by omega)]
      have e5 : (8192 * s + c) &&& (2 * 2 ^ 30) = 0 := by
        apply Nat.eq_of_testBit_eq
        intro k
        rw [Nat.testBit_and, Nat.zero_testBit]
        rcases Nat.lt_or_ge k 31 with hk | hk
        · have : (2 * 2 ^ 30 : Nat).testBit k = false := by
            rw [show (2 * 2 ^ 30 : Nat) = 2 ^ 31 by decide, Nat.testBit_two_pow_of_ne (by omega)]
          rw [this, Bool.and_false]
        · have : (8192 * s + c).testBit k = false := Nat.testBit_lt_two_pow (Nat.lt_of_lt_of_le (by omega : 8192 * s + c < 2 ^ 31) (Nat.pow_le_pow_right (by decide) hk))
          rw [this, Bool.false_and]
      rw [e5, Nat.zero_or]
    rw [e2, e3, Nat.zero_or]
  rw [e, pk_shrN (by omega) _ 13 (by decide)]
  congr 1
  show (8192 * s + c) / 8192 = s
  omega
/-- a number as the class holds it -/
def hN (n : Int) : Int32 := Int32.ofInt (2 * n)
theorem hN_tn (n : Int) : (hN n).toBitVec.toNat = ((2 * n) % 4294967296).toNat := by
  show (BitVec.ofInt 32 (2 * n)).toNat = _
  rw [BitVec.toNat_ofInt]
  rfl
theorem hN_1 (n : Int) : hN n &&& nI 1 = nI 0 := by
  rw [pk_and _ 1 (by decide), hN_tn]
  congr 1
  omega
theorem hN_3 (n : Int) : hN n &&& nI 3 = nI 0 ∨ hN n &&& nI 3 = nI 2 := by
  rw [pk_and _ 2 (by decide), hN_tn]
  rcases Int.emod_two_eq n with h | h
  · left; congr 1; omega
  · right; congr 1; omega
theorem hN_3w {δ : Type} {n : Int} {x y : δ} [Decidable (hN n &&& nI 3 = nI 3)] : (if hN n &&& nI 3 = nI 3 then x else y) = y := if_neg (by
  rcases hN_3 n with h | h <;> rw [h] <;> decide)
theorem hN_3l {δ : Type} {n : Int} {x y : δ} [Decidable (hN n &&& nI 3 = nI 1)] : (if hN n &&& nI 3 = nI 1 then x else y) = y := if_neg (by
  rcases hN_3 n with h | h <;> rw [h] <;> decide)
theorem hN_int {n : Int} (h1 : -1000000000 ≤ n) (h2 : n ≤ 1000000000) : (hN n).toInt = 2 * n := by
  show (Int32.ofInt (2 * n)).toInt = _
  exact Int32.toInt_ofInt_of_le (by show -2147483648 ≤ _; omega) (by show _ < 2147483648; omega)
theorem hN_half {n : Int} (h1 : -1000000000 ≤ n) (h2 : n ≤ 1000000000) : (hN n >>> (nI 1 &&& nI 31)).toInt = n := by
  rw [pk_shr _ _ 1 (by decide), hN_int h1 h2, Int.shiftRight_eq_div_pow]
  show 2 * n / 2 = n
  omega
