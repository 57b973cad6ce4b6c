abbrev b_Arrays_copyOf : ByteArray := prog_25_method_123_code
def y_Arrays_copyOf : MethodName := ⟨R_Arrays, "copyOf", "([II)[I"⟩
abbrev w_Arrays_copyOf : List Cond := .code y_Arrays_copyOf b_Arrays_copyOf 3 (some (.array .int)) :: tw_T
set_option maxRecDepth 100000 in
theorem cw_Arrays_copyOf : Cond.code y_Arrays_copyOf b_Arrays_copyOf 3 (some (.array .int)) ∈ tw_T := tw_i1 172 rfl rfl
theorem d_Arrays_copyOf_0 : decode b_Arrays_copyOf 0 = .ok (.iload_n 1, 1) := by decide +kernel
theorem d_Arrays_copyOf_1 : decode b_Arrays_copyOf 1 = .ok (.aload_n 0, 1) := by decide +kernel
theorem d_Arrays_copyOf_2 : decode b_Arrays_copyOf 2 = .ok (.arraylength, 1) := by decide +kernel
theorem d_Arrays_copyOf_3 : decode b_Arrays_copyOf 3 = .ok (.if_icmp .ne 11, 3) := by decide +kernel
theorem d_Arrays_copyOf_14 : decode b_Arrays_copyOf 14 = .ok (.iload_n 1, 1) := by decide +kernel
theorem d_Arrays_copyOf_15 : decode b_Arrays_copyOf 15 = .ok (.newarray .int, 2) := by decide +kernel
theorem d_Arrays_copyOf_17 : decode b_Arrays_copyOf 17 = .ok (.astore_n 2, 1) := by decide +kernel
theorem d_Arrays_copyOf_18 : decode b_Arrays_copyOf 18 = .ok (.aload_n 0, 1) := by decide +kernel
theorem d_Arrays_copyOf_19 : decode b_Arrays_copyOf 19 = .ok (.iconst 0, 1) := by decide +kernel
theorem d_Arrays_copyOf_20 : decode b_Arrays_copyOf 20 = .ok (.aload_n 2, 1) := by decide +kernel
theorem d_Arrays_copyOf_21 : decode b_Arrays_copyOf 21 = .ok (.iconst 0, 1) := by decide +kernel
theorem d_Arrays_copyOf_22 : decode b_Arrays_copyOf 22 = .ok (.aload_n 0, 1) := by decide +kernel
theorem d_Arrays_copyOf_23 : decode b_Arrays_copyOf 23 = .ok (.arraylength, 1) := by decide +kernel
theorem d_Arrays_copyOf_24 : decode b_Arrays_copyOf 24 = .ok (.iload_n 1, 1) := by decide +kernel
theorem d_Arrays_copyOf_25 : decode b_Arrays_copyOf 25 = .ok (.invokestatic 304, 3) := by decide +kernel
theorem d_Arrays_copyOf_28 : decode b_Arrays_copyOf 28 = .ok (.invokestatic 150, 3) := by decide +kernel
theorem d_Arrays_copyOf_31 : decode b_Arrays_copyOf 31 = .ok (.aload_n 2, 1) := by decide +kernel
theorem d_Arrays_copyOf_32 : decode b_Arrays_copyOf 32 = .ok (.areturn, 1) := by decide +kernel
theorem lk_Arrays_304 : Cond.methodLink "java/util/Arrays" 304 ⟨"java/lang/Math", "min", "(II)I"⟩ ∈ tw_T := tw_i1 180 (by decide +kernel) (by decide +kernel)
theorem lk_Arrays_150 : Cond.methodLink "java/util/Arrays" 150 ⟨"java/lang/System", "arraycopy", "(Ljava/lang/Object;ILjava/lang/Object;II)V"⟩ ∈ tw_T := tw_i1 181 (by decide +kernel) (by decide +kernel)
/-- whole cells of the class's world: u addresses, o those of the two rows that move, i the ints, a the arrays, g the two lengths -/
def updA (a : Nat → Nat → Int32) (k : Nat) (f : Nat → Int32) : Nat → Nat → Int32 := fun j => if j = k then f else a j
def sv (a : Nat → Nat → Int32) (k j : Nat) (x : Int32) : Nat → Nat → Int32 := updA a k (upd (a k) j x)
def ob {α β γ δ : Type} (x : Option (α × β × γ)) (f : α → β → γ → Option δ) : Option δ := match x with
  | none => none
  | some y => f y.1 y.2.1 y.2.2
def ob0 {α δ : Type} (x : Option α) (f : α → Option δ) : Option δ := match x with
  | none => none
  | some y => f y
def ob1 {α δ : Type} (x : α) (f : α → Option δ) : Option δ := f x
def ck {δ : Type} (x : Int32) (n : Nat) (k : Option δ) : Option δ := if x < 0 ∨ n ≤ x.toNatClampNeg then none else k
def cz {δ : Type} (x : Int32) (k : Option δ) : Option δ := if x = 0 then none else k
def czl {δ : Type} (x : Int64) (k : Option δ) : Option δ := if x = 0 then none else k
def cb {δ : Type} (x : Int32) (k : Option δ) : Option δ := if x = 0 ∨ x = 1 then k else none
theorem ob_some {α β γ δ : Type} {x : Option (α × β × γ)} {f : α → β → γ → Option δ} {z : δ} (h : ob x f = some z) : ∃ y1 y2 y3, x = some (y1, y2, y3) ∧ f y1 y2 y3 = some z := by
  match x, h with
  | none, h => cases h
  | some y, h => exact ⟨y.1, y.2.1, y.2.2, rfl, h⟩
theorem ob0_some {α δ : Type} {x : Option α} {f : α → Option δ} {z : δ} (h : ob0 x f = some z) : ∃ y, x = some y ∧ f y = some z := by
  match x, h with
  | none, h => cases h
  | some y, h => exact ⟨y, rfl, h⟩
theorem ob1_at {α δ : Type} {x y : α} {f : α → Option δ} {z : δ} (e : y = x) (h : ob1 x f = some z) : f y = some z := by subst e; exact h
theorem ck_some {δ : Type} {x : Int32} {n : Nat} {k : Option δ} {z : δ} (h : ck x n k = some z) : vp_in x n ∧ k = some z := by
  unfold ck at h
  rcases Classical.em (x < 0 ∨ n ≤ x.toNatClampNeg) with c | c
  · rw [if_pos c] at h; cases h
  · rw [if_neg c] at h; exact ⟨c, h⟩
theorem cz_some {δ : Type} {x : Int32} {k : Option δ} {z : δ} (h : cz x k = some z) : x ≠ 0 ∧ k = some z := by
  unfold cz at h
  rcases Classical.em (x = 0) with c | c
  · rw [if_pos c] at h; cases h
  · rw [if_neg c] at h; exact ⟨c, h⟩
theorem czl_some {δ : Type} {x : Int64} {k : Option δ} {z : δ} (h : czl x k = some z) : x ≠ 0 ∧ k = some z := by
  unfold czl at h
  rcases Classical.em (x = 0) with c | c
  · rw [if_pos c] at h; cases h
  · rw [if_neg c] at h; exact ⟨c, h⟩
theorem cb_some {δ : Type} {x : Int32} {k : Option δ} {z : δ} (h : cb x k = some z) : narrow .boolean (.int x) = .int x ∧ fits .boolean (.int x) = true ∧ k = some z := by
  unfold cb at h
  rcases Classical.em (x = 0 ∨ x = 1) with c | c
  · rw [if_pos c] at h
    exact ⟨by rcases c with c | c <;> subst c <;> decide, by rcases c with c | c <;> subst c <;> decide, h⟩
  · rw [if_neg c] at h; cases h
def cy {δ : Type} (sp dp m : Int32) (n0 n1 : Nat) (k : Option δ) : Option δ := if sp < 0 ∨ dp < 0 ∨ m < 0 ∨ n0 < sp.toNatClampNeg + m.toNatClampNeg ∨ n1 < dp.toNatClampNeg + m.toNatClampNeg then none else k
theorem cy_some {δ : Type} {sp dp m : Int32} {n0 n1 : Nat} {k : Option δ} {z : δ} (h : cy sp dp m n0 n1 k = some z) : ¬ sp < 0 ∧ ¬ dp < 0 ∧ ¬ m < 0 ∧ sp.toNatClampNeg + m.toNatClampNeg ≤ n0 ∧ dp.toNatClampNeg + m.toNatClampNeg ≤ n1 ∧ k = some z := by
  unfold cy at h
  rcases Classical.em (sp < 0 ∨ dp < 0 ∨ m < 0 ∨ n0 < sp.toNatClampNeg + m.toNatClampNeg ∨ n1 < dp.toNatClampNeg + m.toNatClampNeg) with c | c
  · rw [if_pos c] at h; cases h
  · rw [if_neg c] at h
    refine ⟨fun q => c (Or.inl q), fun q => c (Or.inr (Or.inl q)), fun q => c (Or.inr (Or.inr (Or.inl q))), ?_, ?_, h⟩
    · exact Nat.not_lt.mp (fun q => c (Or.inr (Or.inr (Or.inr (Or.inl q)))))
    · exact Nat.not_lt.mp (fun q => c (Or.inr (Or.inr (Or.inr (Or.inr q)))))
theorem if_t {δ : Type} {c : Prop} [Decidable c] {x y z : δ} (hc : c) (h : (if c then x else y) = z) : x = z := by rwa [if_pos hc] at h
theorem if_f {δ : Type} {c : Prop} [Decidable c] {x y z : δ} (hc : ¬ c) (h : (if c then x else y) = z) : y = z := by rwa [if_neg hc] at h
theorem re3 {α β γ : Type} {x x' : α} {y y' : β} {z z' : γ} (h : some (x, y, z) = some (x', y', z')) : x = x' ∧ y = y' ∧ z = z' := by
  cases h; exact ⟨rfl, rfl, rfl⟩
theorem re1 {α : Type} {x x' : α} (h : some x = some x') : x = x' := by cases h; rfl
def xf_0 (u o : Nat → Nat) (i : Nat → Int32) : List Value := [.ref ((u 1)), .ref ((u 3)), .ref ((u 4)), .ref ((u 5)), .ref ((u 6)), .ref ((u 7)), .ref ((u 8)), .ref ((u 10)), .ref ((u 11)), .int (i 0), .int (i 1), .int (i 2), .int (i 3)]
def xf_1 (u o : Nat → Nat) (i : Nat → Int32) : List Value := [.ref ((u 2)), .int (i 4), .int (i 5), .int (i 6), .int (i 7), .ref ((o 0)), .ref ((o 1)), .int (i 8), .int (i 9), .ref ((u 12)), .ref ((u 13)), .ref ((u 14))]
def xf_2 (u o : Nat → Nat) (i : Nat → Int32) : List Value := [.ref ((u 15)), .ref ((u 16)), .ref ((u 17)), .ref ((u 18)), .ref ((u 19)), .int (i 10), .int (i 11)]
def xf_3 (u o : Nat → Nat) (i : Nat → Int32) : List Value := [.ref ((u 1)), .ref ((u 20)), .ref ((u 21)), .int (i 12), .ref ((u 22)), .ref ((u 23)), .int (i 13), .ref ((u 24)), .int (i 14)]
def xf_4 (u o : Nat → Nat) (i : Nat → Int32) : List Value := [.ref ((u 1)), .ref ((u 25)), .ref ((u 26)), .ref ((u 27)), .int (i 15), .ref ((u 28)), .ref ((u 29)), .int (i 16)]
def xf_5 (u o : Nat → Nat) (i : Nat → Int32) : List Value := [.ref ((u 30)), .ref ((u 31)), .int (i 17), .ref ((u 32)), .ref ((u 33)), .ref ((u 34)), .ref ((u 35)), .int (i 18)]
def xf_6 (u o : Nat → Nat) (i : Nat → Int32) : List Value := [.ref ((u 1)), .ref ((u 36)), .int (i 19), .int (i 20), .ref ((u 37)), .int (i 21), .int (i 22), .ref ((u 38)), .int (i 23), .ref ((u 39)), .ref ((u 40))]
def xf_7 (u o : Nat → Nat) (i : Nat → Int32) : List Value := [.ref ((u 1)), .ref ((u 4)), .ref ((u 41)), .int (i 24), .int (i 25), .int (i 26), .int (i 27), .ref ((u 42)), .int (i 28), .ref ((u 43)), .int (i 29), .int (i 30), .int (i 31), .int (i 32), .ref ((u 44)), .ref ((u 45)), .ref ((u 46)), .int (i 33), .int (i 34)]
def xf_8 (u o : Nat → Nat) (i : Nat → Int32) : List Value := [.ref ((u 1)), .int (i 35), .int (i 36), .int (i 37), .int (i 38), .int (i 39), .int (i 40), .int (i 41), .ref ((u 47)), .ref ((u 48)), .ref ((u 49)), .ref ((u 50)), .ref ((u 51)), .ref ((u 52)), .ref ((u 53)), .ref ((u 54)), .ref ((u 55)), .ref ((u 56))]
def xf_9 (u o : Nat → Nat) (i : Nat → Int32) : List Value := [.ref ((u 57)), .ref ((u 58)), .ref ((u 59)), .ref ((u 60)), .ref ((u 61)), .ref ((u 62)), .ref ((u 63)), .int (i 42), .ref ((u 64)), .int (i 43), .int (i 44)]
def xf_10 (u o : Nat → Nat) (i : Nat → Int32) : List Value := [.ref ((u 1)), .ref ((u 8)), .ref ((u 9)), .ref ((u 3)), .ref ((u 4)), .ref ((u 5)), .ref ((u 6)), .int (i 45)]
def xf_11 (u o : Nat → Nat) (i : Nat → Int32) : List Value := [.ref ((u 1)), .ref ((u 8)), .ref ((u 9)), .ref ((u 3)), .ref ((u 4)), .ref ((u 5)), .ref ((u 10)), .int (i 46), .int (i 47)]
def TW (cI : ClassId) (u o : Nat → Nat) (i : Nat → Int32) (a : Nat → Nat → Int32) (g : Nat → Nat) : va_W := [(u 0, .inr (0, xf_0 u o i)), (u 1, .inr (1, xf_1 u o i)), (u 2, .inr (2, xf_2 u o i)), (u 3, .inr (3, xf_3 u o i)), (u 4, .inr (4, xf_4 u o i)), (u 5, .inr (5, xf_5 u o i)), (u 6, .inr (6, xf_6 u o i)), (u 7, .inr (7, xf_7 u o i)), (u 8, .inr (8, xf_8 u o i)), (u 9, .inr (9, xf_9 u o i)), (u 10, .inr (10, xf_10 u o i)), (u 11, .inr (11, xf_11 u o i)), (o 0, .inl (cI, (g 0), .inl (a 0))), (o 1, .inl (cI, (g 1), .inl (a 1))), (u 12, .inl (cI, 700, .inl (a 2))), (u 13, .inl (cI, 700, .inl (a 3))), (u 14, .inl (cI, 700, .inl (a 4))), (u 15, .inl (cI, 600, .inl (a 5))), (u 16, .inl (cI, 86, .inl (a 6))), (u 17, .inl (cI, 86, .inl (a 7))), (u 18, .inl (cI, 258, .inl (a 8))), (u 19, .inl (cI, 256, .inl (a 9))), (u 20, .inl (cI, 64, .inl (a 10))), (u 21, .inl (cI, 64, .inl (a 11))), (u 22, .inl (cI, 1800, .inl (a 12))), (u 23, .inl (cI, 1800, .inl (a 13))), (u 24, .inl (cI, 64, .inl (a 14))), (u 25, .inl (cI, 40, .inl (a 15))), (u 26, .inl (cI, 40, .inl (a 16))), (u 27, .inl (cI, 40, .inl (a 17))), (u 28, .inl (cI, 40, .inl (a 18))), (u 29, .inl (cI, 40, .inl (a 19))), (u 30, .inl (cI, 56, .inl (a 20))), (u 31, .inl (cI, 4096, .inl (a 21))), (u 32, .inl (cI, 4, .inl (a 22))), (u 33, .inl (cI, 4, .inl (a 23))), (u 34, .inl (cI, 56, .inl (a 24))), (u 35, .inl (cI, 4096, .inl (a 25))), (u 36, .inl (cI, 2000, .inl (a 26))), (u 37, .inl (cI, 2000, .inl (a 27))), (u 38, .inl (cI, 8192, .inl (a 28))), (u 39, .inl (cI, 700, .inl (a 29))), (u 40, .inl (cI, 700, .inl (a 30))), (u 41, .inl (cI, 4000, .inl (a 31))), (u 42, .inl (cI, 600, .inl (a 32))), (u 43, .inl (cI, 20, .inl (a 33))), (u 44, .inl (cI, 200, .inl (a 34))), (u 45, .inl (cI, 200, .inl (a 35))), (u 46, .inl (cI, 200, .inl (a 36))), (u 47, .inl (cI, 150, .inl (a 37))), (u 48, .inl (cI, 150, .inl (a 38))), (u 49, .inl (cI, 150, .inl (a 39))), (u 50, .inl (cI, 150, .inl (a 40))), (u 51, .inl (cI, 150, .inl (a 41))), (u 52, .inl (cI, 150, .inl (a 42))), (u 53, .inl (cI, 150, .inl (a 43))), (u 54, .inl (cI, 150, .inl (a 44))), (u 55, .inl (cI, 150, .inl (a 45))), (u 56, .inl (cI, 150, .inl (a 46))), (u 57, .inl (cI, 401, .inl (a 47))), (u 58, .inl (cI, 401, .inl (a 48))), (u 59, .inl (cI, 401, .inl (a 49))), (u 60, .inl (cI, 401, .inl (a 50))), (u 61, .inl (cI, 401, .inl (a 51))), (u 62, .inl (cI, 401, .inl (a 52))), (u 63, .inl (cI, 401, .inl (a 53))), (u 64, .inl (cI, 32000, .inl (a 54)))]
theorem xo_0 {cI : ClassId} {u o : Nat → Nat} {i : Nat → Int32} {a : Nat → Nat → Int32} {g : Nat → Nat} : (TW cI u o i a g)[0]? = some (u 0, .inr (0, xf_0 u o i)) := rfl
theorem xo_1 {cI : ClassId} {u o : Nat → Nat} {i : Nat → Int32} {a : Nat → Nat → Int32} {g : Nat → Nat} : (TW cI u o i a g)[1]? = some (u 1, .inr (1, xf_1 u o i)) := rfl
theorem xo_2 {cI : ClassId} {u o : Nat → Nat} {i : Nat → Int32} {a : Nat → Nat → Int32} {g : Nat → Nat} : (TW cI u o i a g)[2]? = some (u 2, .inr (2, xf_2 u o i)) := rfl
theorem xo_3 {cI : ClassId} {u o : Nat → Nat} {i : Nat → Int32} {a : Nat → Nat → Int32} {g : Nat → Nat} : (TW cI u o i a g)[3]? = some (u 3, .inr (3, xf_3 u o i)) := rfl
theorem xo_4 {cI : ClassId} {u o : Nat → Nat} {i : Nat → Int32} {a : Nat → Nat → Int32} {g : Nat → Nat} : (TW cI u o i a g)[4]? = some (u 4, .inr (4, xf_4 u o i)) := rfl
theorem xo_5 {cI : ClassId} {u o : Nat → Nat} {i : Nat → Int32} {a : Nat → Nat → Int32} {g : Nat → Nat} : (TW cI u o i a g)[5]? = some (u 5, .inr (5, xf_5 u o i)) := rfl
theorem xo_6 {cI : ClassId} {u o : Nat → Nat} {i : Nat → Int32} {a : Nat → Nat → Int32} {g : Nat → Nat} : (TW cI u o i a g)[6]? = some (u 6, .inr (6, xf_6 u o i)) := rfl
theorem xo_7 {cI : ClassId} {u o : Nat → Nat} {i : Nat → Int32} {a : Nat → Nat → Int32} {g : Nat → Nat} : (TW cI u o i a g)[7]? = some (u 7, .inr (7, xf_7 u o i)) := rfl
theorem xo_8 {cI : ClassId} {u o : Nat → Nat} {i : Nat → Int32} {a : Nat → Nat → Int32} {g : Nat → Nat} : (TW cI u o i a g)[8]? = some (u 8, .inr (8, xf_8 u o i)) := rfl
theorem xo_9 {cI : ClassId} {u o : Nat → Nat} {i : Nat → Int32} {a : Nat → Nat → Int32} {g : Nat → Nat} : (TW cI u o i a g)[9]? = some (u 9, .inr (9, xf_9 u o i)) := rfl
theorem xo_10 {cI : ClassId} {u o : Nat → Nat} {i : Nat → Int32} {a : Nat → Nat → Int32} {g : Nat → Nat} : (TW cI u o i a g)[10]? = some (u 10, .inr (10, xf_10 u o i)) := rfl
theorem xo_11 {cI : ClassId} {u o : Nat → Nat} {i : Nat → Int32} {a : Nat → Nat → Int32} {g : Nat → Nat} : (TW cI u o i a g)[11]? = some (u 11, .inr (11, xf_11 u o i)) := rfl
theorem twA_0 {cI : ClassId} {u o : Nat → Nat} {i : Nat → Int32} {a : Nat → Nat → Int32} {g : Nat → Nat} : (TW cI u o i a g)[12]? = some (o 0, .inl (cI, (g 0), .inl (a 0))) := rfl
theorem twA_1 {cI : ClassId} {u o : Nat → Nat} {i : Nat → Int32} {a : Nat → Nat → Int32} {g : Nat → Nat} : (TW cI u o i a g)[13]? = some (o 1, .inl (cI, (g 1), .inl (a 1))) := rfl
theorem twA_2 {cI : ClassId} {u o : Nat → Nat} {i : Nat → Int32} {a : Nat → Nat → Int32} {g : Nat → Nat} : (TW cI u o i a g)[14]? = some (u 12, .inl (cI, 700, .inl (a 2))) := rfl
theorem twA_3 {cI : ClassId} {u o : Nat → Nat} {i : Nat → Int32} {a : Nat → Nat → Int32} {g : Nat → Nat} : (TW cI u o i a g)[15]? = some (u 13, .inl (cI, 700, .inl (a 3))) := rfl
theorem twA_4 {cI : ClassId} {u o : Nat → Nat} {i : Nat → Int32} {a : Nat → Nat → Int32} {g : Nat → Nat} : (TW cI u o i a g)[16]? = some (u 14, .inl (cI, 700, .inl (a 4))) := rfl
theorem twA_5 {cI : ClassId} {u o : Nat → Nat} {i : Nat → Int32} {a : Nat → Nat → Int32} {g : Nat → Nat} : (TW cI u o i a g)[17]? = some (u 15, .inl (cI, 600, .inl (a 5))) := rfl
theorem twA_6 {cI : ClassId} {u o : Nat → Nat} {i : Nat → Int32} {a : Nat → Nat → Int32} {g : Nat → Nat} : (TW cI u o i a g)[18]? = some (u 16, .inl (cI, 86, .inl (a 6))) := rfl
theorem twA_7 {cI : ClassId} {u o : Nat → Nat} {i : Nat → Int32} {a : Nat → Nat → Int32} {g : Nat → Nat} : (TW cI u o i a g)[19]? = some (u 17, .inl (cI, 86, .inl (a 7))) := rfl
theorem twA_8 {cI : ClassId} {u o : Nat → Nat} {i : Nat → Int32} {a : Nat → Nat → Int32} {g : Nat → Nat} : (TW cI u o i a g)[20]? = some (u 18, .inl (cI, 258, .inl (a 8))) := rfl
theorem twA_9 {cI : ClassId} {u o : Nat → Nat} {i : Nat → Int32} {a : Nat → Nat → Int32} {g : Nat → Nat} : (TW cI u o i a g)[21]? = some (u 19, .inl (cI, 256, .inl (a 9))) := rfl
theorem twA_10 {cI : ClassId} {u o : Nat → Nat} {i : Nat → Int32} {a : Nat → Nat → Int32} {g : Nat → Nat} : (TW cI u o i a g)[22]? = some (u 20, .inl (cI, 64, .inl (a 10))) := rfl
theorem twA_11 {cI : ClassId} {u o : Nat → Nat} {i : Nat → Int32} {a : Nat → Nat → Int32} {g : Nat → Nat} : (TW cI u o i a g)[23]? = some (u 21, .inl (cI, 64, .inl (a 11))) := rfl
theorem twA_12 {cI : ClassId} {u o : Nat → Nat} {i : Nat → Int32} {a : Nat → Nat → Int32} {g : Nat → Nat} : (TW cI u o i a g)[24]? = some (u 22, .inl (cI, 1800, .inl (a 12))) := rfl
theorem twA_13 {cI : ClassId} {u o : Nat → Nat} {i : Nat → Int32} {a : Nat → Nat → Int32} {g : Nat → Nat} : (TW cI u o i a g)[25]? = some (u 23, .inl (cI, 1800, .inl (a 13))) := rfl
theorem twA_14 {cI : ClassId} {u o : Nat → Nat} {i : Nat → Int32} {a : Nat → Nat → Int32} {g : Nat → Nat} : (TW cI u o i a g)[26]? = some (u 24, .inl (cI, 64, .inl (a 14))) := rfl
theorem twA_15 {cI : ClassId} {u o : Nat → Nat} {i : Nat → Int32} {a : Nat → Nat → Int32} {g : Nat → Nat} : (TW cI u o i a g)[27]? = some (u 25, .inl (cI, 40, .inl (a 15))) := rfl
theorem twA_16 {cI : ClassId} {u o : Nat → Nat} {i : Nat → Int32} {a : Nat → Nat → Int32} {g : Nat → Nat} : (TW cI u o i a g)[28]? = some (u 26, .inl (cI, 40, .inl (a 16))) := rfl
theorem twA_17 {cI : ClassId} {u o : Nat → Nat} {i : Nat → Int32} {a : Nat → Nat → Int32} {g : Nat → Nat} : (TW cI u o i a g)[29]? = some (u 27, .inl (cI, 40, .inl (a 17))) := rfl
theorem twA_18 {cI : ClassId} {u o : Nat → Nat} {i : Nat → Int32} {a : Nat → Nat → Int32} {g : Nat → Nat} : (TW cI u o i a g)[30]? = some (u 28, .inl (cI, 40, .inl (a 18))) := rfl
theorem twA_19 {cI : ClassId} {u o : Nat → Nat} {i : Nat → Int32} {a : Nat → Nat → Int32} {g : Nat → Nat} : (TW cI u o i a g)[31]? = some (u 29, .inl (cI, 40, .inl (a 19))) := rfl
theorem twA_20 {cI : ClassId} {u o : Nat → Nat} {i : Nat → Int32} {a : Nat → Nat → Int32} {g : Nat → Nat} : (TW cI u o i a g)[32]? = some (u 30, .inl (cI, 56, .inl (a 20))) := rfl
theorem twA_21 {cI : ClassId} {u o : Nat → Nat} {i : Nat → Int32} {a : Nat → Nat → Int32} {g : Nat → Nat} : (TW cI u o i a g)[33]? = some (u 31, .inl (cI, 4096, .inl (a 21))) := rfl
theorem twA_22 {cI : ClassId} {u o : Nat → Nat} {i : Nat → Int32} {a : Nat → Nat → Int32} {g : Nat → Nat} : (TW cI u o i a g)[34]? = some (u 32, .inl (cI, 4, .inl (a 22))) := rfl
theorem twA_23 {cI : ClassId} {u o : Nat → Nat} {i : Nat → Int32} {a : Nat → Nat → Int32} {g : Nat → Nat} : (TW cI u o i a g)[35]? = some (u 33, .inl (cI, 4, .inl (a 23))) := rfl
theorem twA_24 {cI : ClassId} {u o : Nat → Nat} {i : Nat → Int32} {a : Nat → Nat → Int32} {g : Nat → Nat} : (TW cI u o i a g)[36]? = some (u 34, .inl (cI, 56, .inl (a 24))) := rfl
theorem twA_25 {cI : ClassId} {u o : Nat → Nat} {i : Nat → Int32} {a : Nat → Nat → Int32} {g : Nat → Nat} : (TW cI u o i a g)[37]? = some (u 35, .inl (cI, 4096, .inl (a 25))) := rfl
theorem twA_26 {cI : ClassId} {u o : Nat → Nat} {i : Nat → Int32} {a : Nat → Nat → Int32} {g : Nat → Nat} : (TW cI u o i a g)[38]? = some (u 36, .inl (cI, 2000, .inl (a 26))) := rfl
theorem twA_27 {cI : ClassId} {u o : Nat → Nat} {i : Nat → Int32} {a : Nat → Nat → Int32} {g : Nat → Nat} : (TW cI u o i a g)[39]? = some (u 37, .inl (cI, 2000, .inl (a 27))) := rfl
theorem twA_28 {cI : ClassId} {u o : Nat → Nat} {i : Nat → Int32} {a : Nat → Nat → Int32} {g : Nat → Nat} : (TW cI u o i a g)[40]? = some (u 38, .inl (cI, 8192, .inl (a 28))) := rfl
theorem twA_29 {cI : ClassId} {u o : Nat → Nat} {i : Nat → Int32} {a : Nat → Nat → Int32} {g : Nat → Nat} : (TW cI u o i a g)[41]? = some (u 39, .inl (cI, 700, .inl (a 29))) := rfl
theorem twA_30 {cI : ClassId} {u o : Nat → Nat} {i : Nat → Int32} {a : Nat → Nat → Int32} {g : Nat → Nat} : (TW cI u o i a g)[42]? = some (u 40, .inl (cI, 700, .inl (a 30))) := rfl
theorem twA_31 {cI : ClassId} {u o : Nat → Nat} {i : Nat → Int32} {a : Nat → Nat → Int32} {g : Nat → Nat} : (TW cI u o i a g)[43]? = some (u 41, .inl (cI, 4000, .inl (a 31))) := rfl
theorem twA_32 {cI : ClassId} {u o : Nat → Nat} {i : Nat → Int32} {a : Nat → Nat → Int32} {g : Nat → Nat} : (TW cI u o i a g)[44]? = some (u 42, .inl (cI, 600, .inl (a 32))) := rfl
theorem twA_33 {cI : ClassId} {u o : Nat → Nat} {i : Nat → Int32} {a : Nat → Nat → Int32} {g : Nat → Nat} : (TW cI u o i a g)[45]? = some (u 43, .inl (cI, 20, .inl (a 33))) := rfl
theorem twA_34 {cI : ClassId} {u o : Nat → Nat} {i : Nat → Int32} {a : Nat → Nat → Int32} {g : Nat → Nat} : (TW cI u o i a g)[46]? = some (u 44, .inl (cI, 200, .inl (a 34))) := rfl
theorem twA_35 {cI : ClassId} {u o : Nat → Nat} {i : Nat → Int32} {a : Nat → Nat → Int32} {g : Nat → Nat} : (TW cI u o i a g)[47]? = some (u 45, .inl (cI, 200, .inl (a 35))) := rfl
theorem twA_36 {cI : ClassId} {u o : Nat → Nat} {i : Nat → Int32} {a : Nat → Nat → Int32} {g : Nat → Nat} : (TW cI u o i a g)[48]? = some (u 46, .inl (cI, 200, .inl (a 36))) := rfl
theorem twA_37 {cI : ClassId} {u o : Nat → Nat} {i : Nat → Int32} {a : Nat → Nat → Int32} {g : Nat → Nat} : (TW cI u o i a g)[49]? = some (u 47, .inl (cI, 150, .inl (a 37))) := rfl
theorem twA_38 {cI : ClassId} {u o : Nat → Nat} {i : Nat → Int32} {a : Nat → Nat → Int32} {g : Nat → Nat} : (TW cI u o i a g)[50]? = some (u 48, .inl (cI, 150, .inl (a 38))) := rfl
theorem twA_39 {cI : ClassId} {u o : Nat → Nat} {i : Nat → Int32} {a : Nat → Nat → Int32} {g : Nat → Nat} : (TW cI u o i a g)[51]? = some (u 49, .inl (cI, 150, .inl (a 39))) := rfl
theorem twA_40 {cI : ClassId} {u o : Nat → Nat} {i : Nat → Int32} {a : Nat → Nat → Int32} {g : Nat → Nat} : (TW cI u o i a g)[52]? = some (u 50, .inl (cI, 150, .inl (a 40))) := rfl
theorem twA_41 {cI : ClassId} {u o : Nat → Nat} {i : Nat → Int32} {a : Nat → Nat → Int32} {g : Nat → Nat} : (TW cI u o i a g)[53]? = some (u 51, .inl (cI, 150, .inl (a 41))) := rfl
theorem twA_42 {cI : ClassId} {u o : Nat → Nat} {i : Nat → Int32} {a : Nat → Nat → Int32} {g : Nat → Nat} : (TW cI u o i a g)[54]? = some (u 52, .inl (cI, 150, .inl (a 42))) := rfl
theorem twA_43 {cI : ClassId} {u o : Nat → Nat} {i : Nat → Int32} {a : Nat → Nat → Int32} {g : Nat → Nat} : (TW cI u o i a g)[55]? = some (u 53, .inl (cI, 150, .inl (a 43))) := rfl
theorem twA_44 {cI : ClassId} {u o : Nat → Nat} {i : Nat → Int32} {a : Nat → Nat → Int32} {g : Nat → Nat} : (TW cI u o i a g)[56]? = some (u 54, .inl (cI, 150, .inl (a 44))) := rfl
theorem twA_45 {cI : ClassId} {u o : Nat → Nat} {i : Nat → Int32} {a : Nat → Nat → Int32} {g : Nat → Nat} : (TW cI u o i a g)[57]? = some (u 55, .inl (cI, 150, .inl (a 45))) := rfl
theorem twA_46 {cI : ClassId} {u o : Nat → Nat} {i : Nat → Int32} {a : Nat → Nat → Int32} {g : Nat → Nat} : (TW cI u o i a g)[58]? = some (u 56, .inl (cI, 150, .inl (a 46))) := rfl
theorem twA_47 {cI : ClassId} {u o : Nat → Nat} {i : Nat → Int32} {a : Nat → Nat → Int32} {g : Nat → Nat} : (TW cI u o i a g)[59]? = some (u 57, .inl (cI, 401, .inl (a 47))) := rfl
theorem twA_48 {cI : ClassId} {u o : Nat → Nat} {i : Nat → Int32} {a : Nat → Nat → Int32} {g : Nat → Nat} : (TW cI u o i a g)[60]? = some (u 58, .inl (cI, 401, .inl (a 48))) := rfl
theorem twA_49 {cI : ClassId} {u o : Nat → Nat} {i : Nat → Int32} {a : Nat → Nat → Int32} {g : Nat → Nat} : (TW cI u o i a g)[61]? = some (u 59, .inl (cI, 401, .inl (a 49))) := rfl
theorem twA_50 {cI : ClassId} {u o : Nat → Nat} {i : Nat → Int32} {a : Nat → Nat → Int32} {g : Nat → Nat} : (TW cI u o i a g)[62]? = some (u 60, .inl (cI, 401, .inl (a 50))) := rfl
theorem twA_51 {cI : ClassId} {u o : Nat → Nat} {i : Nat → Int32} {a : Nat → Nat → Int32} {g : Nat → Nat} : (TW cI u o i a g)[63]? = some (u 61, .inl (cI, 401, .inl (a 51))) := rfl
theorem twA_52 {cI : ClassId} {u o : Nat → Nat} {i : Nat → Int32} {a : Nat → Nat → Int32} {g : Nat → Nat} : (TW cI u o i a g)[64]? = some (u 62, .inl (cI, 401, .inl (a 52))) := rfl
theorem twA_53 {cI : ClassId} {u o : Nat → Nat} {i : Nat → Int32} {a : Nat → Nat → Int32} {g : Nat → Nat} : (TW cI u o i a g)[65]? = some (u 63, .inl (cI, 401, .inl (a 53))) := rfl
theorem twA_54 {cI : ClassId} {u o : Nat → Nat} {i : Nat → Int32} {a : Nat → Nat → Int32} {g : Nat → Nat} : (TW cI u o i a g)[66]? = some (u 64, .inl (cI, 32000, .inl (a 54))) := rfl
theorem xg_0_0 {u o : Nat → Nat} {i : Nat → Int32} : (xf_0 u o i)[0]? = some (.ref ((u 1))) := rfl
theorem xg_0_1 {u o : Nat → Nat} {i : Nat → Int32} : (xf_0 u o i)[1]? = some (.ref ((u 3))) := rfl
theorem xg_0_2 {u o : Nat → Nat} {i : Nat → Int32} : (xf_0 u o i)[2]? = some (.ref ((u 4))) := rfl
theorem xg_0_3 {u o : Nat → Nat} {i : Nat → Int32} : (xf_0 u o i)[3]? = some (.ref ((u 5))) := rfl
theorem xg_0_4 {u o : Nat → Nat} {i : Nat → Int32} : (xf_0 u o i)[4]? = some (.ref ((u 6))) := rfl
theorem xg_0_5 {u o : Nat → Nat} {i : Nat → Int32} : (xf_0 u o i)[5]? = some (.ref ((u 7))) := rfl
theorem xg_0_6 {u o : Nat → Nat} {i : Nat → Int32} : (xf_0 u o i)[6]? = some (.ref ((u 8))) := rfl
theorem xg_0_7 {u o : Nat → Nat} {i : Nat → Int32} : (xf_0 u o i)[7]? = some (.ref ((u 10))) := rfl
theorem xg_0_8 {u o : Nat → Nat} {i : Nat → Int32} : (xf_0 u o i)[8]? = some (.ref ((u 11))) := rfl
theorem xg_0_9 {u o : Nat → Nat} {i : Nat → Int32} : (xf_0 u o i)[9]? = some (.int (i 0)) := rfl
theorem xl_0_9 {u o : Nat → Nat} {i : Nat → Int32} : 9 < (xf_0 u o i).length := Nat.le_of_ble_eq_true rfl
theorem xw_0 {cI : ClassId} {u o : Nat → Nat} {i : Nat → Int32} {a : Nat → Nat → Int32} {g : Nat → Nat} {i2 : Nat → Int32} {x : Int32} {D : va_G} {H : Heap} {A : Nat → Prop} (e : i2 = upd i 0 x) (hP : va_P D classes ((TW cI u o i a g).set 0 (u 0, .inr (0, (xf_0 u o i).set 9 (.int x)))) H) (hD : va_D A ((TW cI u o i a g).set 0 (u 0, .inr (0, (xf_0 u o i).set 9 (.int x))))) : va_P D classes (TW cI u o i2 a g) H ∧ va_D A (TW cI u o i2 a g) := by
  subst e
  have h : (TW cI u o i a g).set 0 (u 0, .inr (0, (xf_0 u o i).set 9 (.int x))) = TW cI u o (upd i 0 x) a g := rfl
  rw [h] at hP hD
  exact ⟨hP, hD⟩
theorem xg_0_10 {u o : Nat → Nat} {i : Nat → Int32} : (xf_0 u o i)[10]? = some (.int (i 1)) := rfl
theorem xl_0_10 {u o : Nat → Nat} {i : Nat → Int32} : 10 < (xf_0 u o i).length := Nat.le_of_ble_eq_true rfl
theorem xw_1 {cI : ClassId} {u o : Nat → Nat} {i : Nat → Int32} {a : Nat → Nat → Int32} {g : Nat → Nat} {i2 : Nat → Int32} {x : Int32} {D : va_G} {H : Heap} {A : Nat → Prop} (e : i2 = upd i 1 x) (hP : va_P D classes ((TW cI u o i a g).set 0 (u 0, .inr (0, (xf_0 u o i).set 10 (.int x)))) H) (hD : va_D A ((TW cI u o i a g).set 0 (u 0, .inr (0, (xf_0 u o i).set 10 (.int x))))) : va_P D classes (TW cI u o i2 a g) H ∧ va_D A (TW cI u o i2 a g) := by
  subst e
  have h : (TW cI u o i a g).set 0 (u 0, .inr (0, (xf_0 u o i).set 10 (.int x))) = TW cI u o (upd i 1 x) a g := rfl
  rw [h] at hP hD
  exact ⟨hP, hD⟩
theorem xg_0_11 {u o : Nat → Nat} {i : Nat → Int32} : (xf_0 u o i)[11]? = some (.int (i 2)) := rfl
theorem xl_0_11 {u o : Nat → Nat} {i : Nat → Int32} : 11 < (xf_0 u o i).length := Nat.le_of_ble_eq_true rfl
theorem xw_2 {cI : ClassId} {u o : Nat → Nat} {i : Nat → Int32} {a : Nat → Nat → Int32} {g : Nat → Nat} {i2 : Nat → Int32} {x : Int32} {D : va_G} {H : Heap} {A : Nat → Prop} (e : i2 = upd i 2 x) (hP : va_P D classes ((TW cI u o i a g).set 0 (u 0, .inr (0, (xf_0 u o i).set 11 (.int x)))) H) (hD : va_D A ((TW cI u o i a g).set 0 (u 0, .inr (0, (xf_0 u o i).set 11 (.int x))))) : va_P D classes (TW cI u o i2 a g) H ∧ va_D A (TW cI u o i2 a g) := by
  subst e
  have h : (TW cI u o i a g).set 0 (u 0, .inr (0, (xf_0 u o i).set 11 (.int x))) = TW cI u o (upd i 2 x) a g := rfl
  rw [h] at hP hD
  exact ⟨hP, hD⟩
theorem xg_0_12 {u o : Nat → Nat} {i : Nat → Int32} : (xf_0 u o i)[12]? = some (.int (i 3)) := rfl
theorem xl_0_12 {u o : Nat → Nat} {i : Nat → Int32} : 12 < (xf_0 u o i).length := Nat.le_of_ble_eq_true rfl
theorem xw_3 {cI : ClassId} {u o : Nat → Nat} {i : Nat → Int32} {a : Nat → Nat → Int32} {g : Nat → Nat} {i2 : Nat → Int32} {x : Int32} {D : va_G} {H : Heap} {A : Nat → Prop} (e : i2 = upd i 3 x) (hP : va_P D classes ((TW cI u o i a g).set 0 (u 0, .inr (0, (xf_0 u o i).set 12 (.int x)))) H) (hD : va_D A ((TW cI u o i a g).set 0 (u 0, .inr (0, (xf_0 u o i).set 12 (.int x))))) : va_P D classes (TW cI u o i2 a g) H ∧ va_D A (TW cI u o i2 a g) := by
  subst e
  have h : (TW cI u o i a g).set 0 (u 0, .inr (0, (xf_0 u o i).set 12 (.int x))) = TW cI u o (upd i 3 x) a g := rfl
  rw [h] at hP hD
  exact ⟨hP, hD⟩
theorem xg_1_0 {u o : Nat → Nat} {i : Nat → Int32} : (xf_1 u o i)[0]? = some (.ref ((u 2))) := rfl
theorem xg_1_1 {u o : Nat → Nat} {i : Nat → Int32} : (xf_1 u o i)[1]? = some (.int (i 4)) := rfl
theorem xg_1_2 {u o : Nat → Nat} {i : Nat → Int32} : (xf_1 u o i)[2]? = some (.int (i 5)) := rfl
theorem xg_1_3 {u o : Nat → Nat} {i : Nat → Int32} : (xf_1 u o i)[3]? = some (.int (i 6)) := rfl
theorem xg_1_4 {u o : Nat → Nat} {i : Nat → Int32} : (xf_1 u o i)[4]? = some (.int (i 7)) := rfl
theorem xg_1_5 {u o : Nat → Nat} {i : Nat → Int32} : (xf_1 u o i)[5]? = some (.ref ((o 0))) := rfl
theorem xg_1_6 {u o : Nat → Nat} {i : Nat → Int32} : (xf_1 u o i)[6]? = some (.ref ((o 1))) := rfl
theorem xg_1_7 {u o : Nat → Nat} {i : Nat → Int32} : (xf_1 u o i)[7]? = some (.int (i 8)) := rfl
theorem xl_1_7 {u o : Nat → Nat} {i : Nat → Int32} : 7 < (xf_1 u o i).length := Nat.le_of_ble_eq_true rfl
theorem xw_8 {cI : ClassId} {u o : Nat → Nat} {i : Nat → Int32} {a : Nat → Nat → Int32} {g : Nat → Nat} {i2 : Nat → Int32} {x : Int32} {D : va_G} {H : Heap} {A : Nat → Prop} (e : i2 = upd i 8 x) (hP : va_P D classes ((TW cI u o i a g).set 1 (u 1, .inr (1, (xf_1 u o i).set 7 (.int x)))) H) (hD : va_D A ((TW cI u o i a g).set 1 (u 1, .inr (1, (xf_1 u o i).set 7 (.int x))))) : va_P D classes (TW cI u o i2 a g) H ∧ va_D A (TW cI u o i2 a g) := by
  subst e
  have h : (TW cI u o i a g).set 1 (u 1, .inr (1, (xf_1 u o i).set 7 (.int x))) = TW cI u o (upd i 8 x) a g := rfl
  rw [h] at hP hD
  exact ⟨hP, hD⟩
theorem xg_1_8 {u o : Nat → Nat} {i : Nat → Int32} : (xf_1 u o i)[8]? = some (.int (i 9)) := rfl
theorem xl_1_8 {u o : Nat → Nat} {i : Nat → Int32} : 8 < (xf_1 u o i).length := Nat.le_of_ble_eq_true rfl
theorem xw_9 {cI : ClassId} {u o : Nat → Nat} {i : Nat → Int32} {a : Nat → Nat → Int32} {g : Nat → Nat} {i2 : Nat → Int32} {x : Int32} {D : va_G} {H : Heap} {A : Nat → Prop} (e : i2 = upd i 9 x) (hP : va_P D classes ((TW cI u o i a g).set 1 (u 1, .inr (1, (xf_1 u o i).set 8 (.int x)))) H) (hD : va_D A ((TW cI u o i a g).set 1 (u 1, .inr (1, (xf_1 u o i).set 8 (.int x))))) : va_P D classes (TW cI u o i2 a g) H ∧ va_D A (TW cI u o i2 a g) := by
  subst e
  have h : (TW cI u o i a g).set 1 (u 1, .inr (1, (xf_1 u o i).set 8 (.int x))) = TW cI u o (upd i 9 x) a g := rfl
  rw [h] at hP hD
  exact ⟨hP, hD⟩
theorem xg_1_9 {u o : Nat → Nat} {i : Nat → Int32} : (xf_1 u o i)[9]? = some (.ref ((u 12))) := rfl
theorem xg_1_10 {u o : Nat → Nat} {i : Nat → Int32} : (xf_1 u o i)[10]? = some (.ref ((u 13))) := rfl
theorem xg_1_11 {u o : Nat → Nat} {i : Nat → Int32} : (xf_1 u o i)[11]? = some (.ref ((u 14))) := rfl
theorem xg_2_0 {u o : Nat → Nat} {i : Nat → Int32} : (xf_2 u o i)[0]? = some (.ref ((u 15))) := rfl
theorem xg_2_1 {u o : Nat → Nat} {i : Nat → Int32} : (xf_2 u o i)[1]? = some (.ref ((u 16))) := rfl
theorem xg_2_2 {u o : Nat → Nat} {i : Nat → Int32} : (xf_2 u o i)[2]? = some (.ref ((u 17))) := rfl
theorem xg_2_3 {u o : Nat → Nat} {i : Nat → Int32} : (xf_2 u o i)[3]? = some (.ref ((u 18))) := rfl
theorem xg_2_4 {u o : Nat → Nat} {i : Nat → Int32} : (xf_2 u o i)[4]? = some (.ref ((u 19))) := rfl
theorem xg_3_0 {u o : Nat → Nat} {i : Nat → Int32} : (xf_3 u o i)[0]? = some (.ref ((u 1))) := rfl
theorem xg_3_1 {u o : Nat → Nat} {i : Nat → Int32} : (xf_3 u o i)[1]? = some (.ref ((u 20))) := rfl
theorem xg_3_2 {u o : Nat → Nat} {i : Nat → Int32} : (xf_3 u o i)[2]? = some (.ref ((u 21))) := rfl
theorem xg_3_3 {u o : Nat → Nat} {i : Nat → Int32} : (xf_3 u o i)[3]? = some (.int (i 12)) := rfl
theorem xl_3_3 {u o : Nat → Nat} {i : Nat → Int32} : 3 < (xf_3 u o i).length := Nat.le_of_ble_eq_true rfl
theorem xw_12 {cI : ClassId} {u o : Nat → Nat} {i : Nat → Int32} {a : Nat → Nat → Int32} {g : Nat → Nat} {i2 : Nat → Int32} {x : Int32} {D : va_G} {H : Heap} {A : Nat → Prop} (e : i2 = upd i 12 x) (hP : va_P D classes ((TW cI u o i a g).set 3 (u 3, .inr (3, (xf_3 u o i).set 3 (.int x)))) H) (hD : va_D A ((TW cI u o i a g).set 3 (u 3, .inr (3, (xf_3 u o i).set 3 (.int x))))) : va_P D classes (TW cI u o i2 a g) H ∧ va_D A (TW cI u o i2 a g) := by
  subst e
  have h : (TW cI u o i a g).set 3 (u 3, .inr (3, (xf_3 u o i).set 3 (.int x))) = TW cI u o (upd i 12 x) a g := rfl
  rw [h] at hP hD
  exact ⟨hP, hD⟩
theorem xg_3_4 {u o : Nat → Nat} {i : Nat → Int32} : (xf_3 u o i)[4]? = some (.ref ((u 22))) := rfl
theorem xg_3_5 {u o : Nat → Nat} {i : Nat → Int32} : (xf_3 u o i)[5]? = some (.ref ((u 23))) := rfl
theorem xg_3_6 {u o : Nat → Nat} {i : Nat → Int32} : (xf_3 u o i)[6]? = some (.int (i 13)) := rfl
theorem xl_3_6 {u o : Nat → Nat} {i : Nat → Int32} : 6 < (xf_3 u o i).length := Nat.le_of_ble_eq_true rfl
theorem xw_13 {cI : ClassId} {u o : Nat → Nat} {i : Nat → Int32} {a : Nat → Nat → Int32} {g : Nat → Nat} {i2 : Nat → Int32} {x : Int32} {D : va_G} {H : Heap} {A : Nat → Prop} (e : i2 = upd i 13 x) (hP : va_P D classes ((TW cI u o i a g).set 3 (u 3, .inr (3, (xf_3 u o i).set 6 (.int x)))) H) (hD : va_D A ((TW cI u o i a g).set 3 (u 3, .inr (3, (xf_3 u o i).set 6 (.int x))))) : va_P D classes (TW cI u o i2 a g) H ∧ va_D A (TW cI u o i2 a g) := by
  subst e
  have h : (TW cI u o i a g).set 3 (u 3, .inr (3, (xf_3 u o i).set 6 (.int x))) = TW cI u o (upd i 13 x) a g := rfl
  rw [h] at hP hD
  exact ⟨hP, hD⟩
theorem xg_3_7 {u o : Nat → Nat} {i : Nat → Int32} : (xf_3 u o i)[7]? = some (.ref ((u 24))) := rfl
theorem xg_3_8 {u o : Nat → Nat} {i : Nat → Int32} : (xf_3 u o i)[8]? = some (.int (i 14)) := rfl
theorem xl_3_8 {u o : Nat → Nat} {i : Nat → Int32} : 8 < (xf_3 u o i).length := Nat.le_of_ble_eq_true rfl
theorem xw_14 {cI : ClassId} {u o : Nat → Nat} {i : Nat → Int32} {a : Nat → Nat → Int32} {g : Nat → Nat} {i2 : Nat → Int32} {x : Int32} {D : va_G} {H : Heap} {A : Nat → Prop} (e : i2 = upd i 14 x) (hP : va_P D classes ((TW cI u o i a g).set 3 (u 3, .inr (3, (xf_3 u o i).set 8 (.int x)))) H) (hD : va_D A ((TW cI u o i a g).set 3 (u 3, .inr (3, (xf_3 u o i).set 8 (.int x))))) : va_P D classes (TW cI u o i2 a g) H ∧ va_D A (TW cI u o i2 a g) := by
  subst e
  have h : (TW cI u o i a g).set 3 (u 3, .inr (3, (xf_3 u o i).set 8 (.int x))) = TW cI u o (upd i 14 x) a g := rfl
  rw [h] at hP hD
  exact ⟨hP, hD⟩
theorem xg_4_0 {u o : Nat → Nat} {i : Nat → Int32} : (xf_4 u o i)[0]? = some (.ref ((u 1))) := rfl
theorem xg_4_1 {u o : Nat → Nat} {i : Nat → Int32} : (xf_4 u o i)[1]? = some (.ref ((u 25))) := rfl
theorem xg_4_2 {u o : Nat → Nat} {i : Nat → Int32} : (xf_4 u o i)[2]? = some (.ref ((u 26))) := rfl
theorem xg_4_3 {u o : Nat → Nat} {i : Nat → Int32} : (xf_4 u o i)[3]? = some (.ref ((u 27))) := rfl
theorem xg_4_4 {u o : Nat → Nat} {i : Nat → Int32} : (xf_4 u o i)[4]? = some (.int (i 15)) := rfl
theorem xl_4_4 {u o : Nat → Nat} {i : Nat → Int32} : 4 < (xf_4 u o i).length := Nat.le_of_ble_eq_true rfl
theorem xw_15 {cI : ClassId} {u o : Nat → Nat} {i : Nat → Int32} {a : Nat → Nat → Int32} {g : Nat → Nat} {i2 : Nat → Int32} {x : Int32} {D : va_G} {H : Heap} {A : Nat → Prop} (e : i2 = upd i 15 x) (hP : va_P D classes ((TW cI u o i a g).set 4 (u 4, .inr (4, (xf_4 u o i).set 4 (.int x)))) H) (hD : va_D A ((TW cI u o i a g).set 4 (u 4, .inr (4, (xf_4 u o i).set 4 (.int x))))) : va_P D classes (TW cI u o i2 a g) H ∧ va_D A (TW cI u o i2 a g) := by
  subst e
  have h : (TW cI u o i a g).set 4 (u 4, .inr (4, (xf_4 u o i).set 4 (.int x))) = TW cI u o (upd i 15 x) a g := rfl
  rw [h] at hP hD
  exact ⟨hP, hD⟩
theorem xg_4_5 {u o : Nat → Nat} {i : Nat → Int32} : (xf_4 u o i)[5]? = some (.ref ((u 28))) := rfl
theorem xg_4_6 {u o : Nat → Nat} {i : Nat → Int32} : (xf_4 u o i)[6]? = some (.ref ((u 29))) := rfl
theorem xg_4_7 {u o : Nat → Nat} {i : Nat → Int32} : (xf_4 u o i)[7]? = some (.int (i 16)) := rfl
theorem xl_4_7 {u o : Nat → Nat} {i : Nat → Int32} : 7 < (xf_4 u o i).length := Nat.le_of_ble_eq_true rfl
theorem xw_16 {cI : ClassId} {u o : Nat → Nat} {i : Nat → Int32} {a : Nat → Nat → Int32} {g : Nat → Nat} {i2 : Nat → Int32} {x : Int32} {D : va_G} {H : Heap} {A : Nat → Prop} (e : i2 = upd i 16 x) (hP : va_P D classes ((TW cI u o i a g).set 4 (u 4, .inr (4, (xf_4 u o i).set 7 (.int x)))) H) (hD : va_D A ((TW cI u o i a g).set 4 (u 4, .inr (4, (xf_4 u o i).set 7 (.int x))))) : va_P D classes (TW cI u o i2 a g) H ∧ va_D A (TW cI u o i2 a g) := by
  subst e
  have h : (TW cI u o i a g).set 4 (u 4, .inr (4, (xf_4 u o i).set 7 (.int x))) = TW cI u o (upd i 16 x) a g := rfl
  rw [h] at hP hD
  exact ⟨hP, hD⟩
theorem xg_5_0 {u o : Nat → Nat} {i : Nat → Int32} : (xf_5 u o i)[0]? = some (.ref ((u 30))) := rfl
theorem xg_5_1 {u o : Nat → Nat} {i : Nat → Int32} : (xf_5 u o i)[1]? = some (.ref ((u 31))) := rfl
theorem xg_5_2 {u o : Nat → Nat} {i : Nat → Int32} : (xf_5 u o i)[2]? = some (.int (i 17)) := rfl
theorem xl_5_2 {u o : Nat → Nat} {i : Nat → Int32} : 2 < (xf_5 u o i).length := Nat.le_of_ble_eq_true rfl
theorem xw_17 {cI : ClassId} {u o : Nat → Nat} {i : Nat → Int32} {a : Nat → Nat → Int32} {g : Nat → Nat} {i2 : Nat → Int32} {x : Int32} {D : va_G} {H : Heap} {A : Nat → Prop} (e : i2 = upd i 17 x) (hP : va_P D classes ((TW cI u o i a g).set 5 (u 5, .inr (5, (xf_5 u o i).set 2 (.int x)))) H) (hD : va_D A ((TW cI u o i a g).set 5 (u 5, .inr (5, (xf_5 u o i).set 2 (.int x))))) : va_P D classes (TW cI u o i2 a g) H ∧ va_D A (TW cI u o i2 a g) := by
  subst e
  have h : (TW cI u o i a g).set 5 (u 5, .inr (5, (xf_5 u o i).set 2 (.int x))) = TW cI u o (upd i 17 x) a g := rfl
  rw [h] at hP hD
  exact ⟨hP, hD⟩
theorem xg_5_3 {u o : Nat → Nat} {i : Nat → Int32} : (xf_5 u o i)[3]? = some (.ref ((u 32))) := rfl
theorem xg_5_4 {u o : Nat → Nat} {i : Nat → Int32} : (xf_5 u o i)[4]? = some (.ref ((u 33))) := rfl
theorem xg_5_5 {u o : Nat → Nat} {i : Nat → Int32} : (xf_5 u o i)[5]? = some (.ref ((u 34))) := rfl
theorem xg_5_6 {u o : Nat → Nat} {i : Nat → Int32} : (xf_5 u o i)[6]? = some (.ref ((u 35))) := rfl
theorem xg_5_7 {u o : Nat → Nat} {i : Nat → Int32} : (xf_5 u o i)[7]? = some (.int (i 18)) := rfl
theorem xl_5_7 {u o : Nat → Nat} {i : Nat → Int32} : 7 < (xf_5 u o i).length := Nat.le_of_ble_eq_true rfl
theorem xw_18 {cI : ClassId} {u o : Nat → Nat} {i : Nat → Int32} {a : Nat → Nat → Int32} {g : Nat → Nat} {i2 : Nat → Int32} {x : Int32} {D : va_G} {H : Heap} {A : Nat → Prop} (e : i2 = upd i 18 x) (hP : va_P D classes ((TW cI u o i a g).set 5 (u 5, .inr (5, (xf_5 u o i).set 7 (.int x)))) H) (hD : va_D A ((TW cI u o i a g).set 5 (u 5, .inr (5, (xf_5 u o i).set 7 (.int x))))) : va_P D classes (TW cI u o i2 a g) H ∧ va_D A (TW cI u o i2 a g) := by
  subst e
  have h : (TW cI u o i a g).set 5 (u 5, .inr (5, (xf_5 u o i).set 7 (.int x))) = TW cI u o (upd i 18 x) a g := rfl
  rw [h] at hP hD
  exact ⟨hP, hD⟩
theorem xg_6_0 {u o : Nat → Nat} {i : Nat → Int32} : (xf_6 u o i)[0]? = some (.ref ((u 1))) := rfl
theorem xg_6_1 {u o : Nat → Nat} {i : Nat → Int32} : (xf_6 u o i)[1]? = some (.ref ((u 36))) := rfl
theorem xg_6_2 {u o : Nat → Nat} {i : Nat → Int32} : (xf_6 u o i)[2]? = some (.int (i 19)) := rfl
theorem xl_6_2 {u o : Nat → Nat} {i : Nat → Int32} : 2 < (xf_6 u o i).length := Nat.le_of_ble_eq_true rfl
theorem xw_19 {cI : ClassId} {u o : Nat → Nat} {i : Nat → Int32} {a : Nat → Nat → Int32} {g : Nat → Nat} {i2 : Nat → Int32} {x : Int32} {D : va_G} {H : Heap} {A : Nat → Prop} (e : i2 = upd i 19 x) (hP : va_P D classes ((TW cI u o i a g).set 6 (u 6, .inr (6, (xf_6 u o i).set 2 (.int x)))) H) (hD : va_D A ((TW cI u o i a g).set 6 (u 6, .inr (6, (xf_6 u o i).set 2 (.int x))))) : va_P D classes (TW cI u o i2 a g) H ∧ va_D A (TW cI u o i2 a g) := by
  subst e
  have h : (TW cI u o i a g).set 6 (u 6, .inr (6, (xf_6 u o i).set 2 (.int x))) = TW cI u o (upd i 19 x) a g := rfl
  rw [h] at hP hD
  exact ⟨hP, hD⟩
theorem xg_6_3 {u o : Nat → Nat} {i : Nat → Int32} : (xf_6 u o i)[3]? = some (.int (i 20)) := rfl
theorem xl_6_3 {u o : Nat → Nat} {i : Nat → Int32} : 3 < (xf_6 u o i).length := Nat.le_of_ble_eq_true rfl
theorem xw_20 {cI : ClassId} {u o : Nat → Nat} {i : Nat → Int32} {a : Nat → Nat → Int32} {g : Nat → Nat} {i2 : Nat → Int32} {x : Int32} {D : va_G} {H : Heap} {A : Nat → Prop} (e : i2 = upd i 20 x) (hP : va_P D classes ((TW cI u o i a g).set 6 (u 6, .inr (6, (xf_6 u o i).set 3 (.int x)))) H) (hD : va_D A ((TW cI u o i a g).set 6 (u 6, .inr (6, (xf_6 u o i).set 3 (.int x))))) : va_P D classes (TW cI u o i2 a g) H ∧ va_D A (TW cI u o i2 a g) := by
  subst e
  have h : (TW cI u o i a g).set 6 (u 6, .inr (6, (xf_6 u o i).set 3 (.int x))) = TW cI u o (upd i 20 x) a g := rfl
  rw [h] at hP hD
  exact ⟨hP, hD⟩
theorem xg_6_4 {u o : Nat → Nat} {i : Nat → Int32} : (xf_6 u o i)[4]? = some (.ref ((u 37))) := rfl
theorem xg_6_5 {u o : Nat → Nat} {i : Nat → Int32} : (xf_6 u o i)[5]? = some (.int (i 21)) := rfl
theorem xl_6_5 {u o : Nat → Nat} {i : Nat → Int32} : 5 < (xf_6 u o i).length := Nat.le_of_ble_eq_true rfl
theorem xw_21 {cI : ClassId} {u o : Nat → Nat} {i : Nat → Int32} {a : Nat → Nat → Int32} {g : Nat → Nat} {i2 : Nat → Int32} {x : Int32} {D : va_G} {H : Heap} {A : Nat → Prop} (e : i2 = upd i 21 x) (hP : va_P D classes ((TW cI u o i a g).set 6 (u 6, .inr (6, (xf_6 u o i).set 5 (.int x)))) H) (hD : va_D A ((TW cI u o i a g).set 6 (u 6, .inr (6, (xf_6 u o i).set 5 (.int x))))) : va_P D classes (TW cI u o i2 a g) H ∧ va_D A (TW cI u o i2 a g) := by
  subst e
  have h : (TW cI u o i a g).set 6 (u 6, .inr (6, (xf_6 u o i).set 5 (.int x))) = TW cI u o (upd i 21 x) a g := rfl
  rw [h] at hP hD
  exact ⟨hP, hD⟩
theorem xg_6_6 {u o : Nat → Nat} {i : Nat → Int32} : (xf_6 u o i)[6]? = some (.int (i 22)) := rfl
theorem xl_6_6 {u o : Nat → Nat} {i : Nat → Int32} : 6 < (xf_6 u o i).length := Nat.le_of_ble_eq_true rfl
theorem xw_22 {cI : ClassId} {u o : Nat → Nat} {i : Nat → Int32} {a : Nat → Nat → Int32} {g : Nat → Nat} {i2 : Nat → Int32} {x : Int32} {D : va_G} {H : Heap} {A : Nat → Prop} (e : i2 = upd i 22 x) (hP : va_P D classes ((TW cI u o i a g).set 6 (u 6, .inr (6, (xf_6 u o i).set 6 (.int x)))) H) (hD : va_D A ((TW cI u o i a g).set 6 (u 6, .inr (6, (xf_6 u o i).set 6 (.int x))))) : va_P D classes (TW cI u o i2 a g) H ∧ va_D A (TW cI u o i2 a g) := by
  subst e
  have h : (TW cI u o i a g).set 6 (u 6, .inr (6, (xf_6 u o i).set 6 (.int x))) = TW cI u o (upd i 22 x) a g := rfl
  rw [h] at hP hD
  exact ⟨hP, hD⟩
theorem xg_6_7 {u o : Nat → Nat} {i : Nat → Int32} : (xf_6 u o i)[7]? = some (.ref ((u 38))) := rfl
theorem xg_6_8 {u o : Nat → Nat} {i : Nat → Int32} : (xf_6 u o i)[8]? = some (.int (i 23)) := rfl
theorem xl_6_8 {u o : Nat → Nat} {i : Nat → Int32} : 8 < (xf_6 u o i).length := Nat.le_of_ble_eq_true rfl
theorem xw_23 {cI : ClassId} {u o : Nat → Nat} {i : Nat → Int32} {a : Nat → Nat → Int32} {g : Nat → Nat} {i2 : Nat → Int32} {x : Int32} {D : va_G} {H : Heap} {A : Nat → Prop} (e : i2 = upd i 23 x) (hP : va_P D classes ((TW cI u o i a g).set 6 (u 6, .inr (6, (xf_6 u o i).set 8 (.int x)))) H) (hD : va_D A ((TW cI u o i a g).set 6 (u 6, .inr (6, (xf_6 u o i).set 8 (.int x))))) : va_P D classes (TW cI u o i2 a g) H ∧ va_D A (TW cI u o i2 a g) := by
  subst e
  have h : (TW cI u o i a g).set 6 (u 6, .inr (6, (xf_6 u o i).set 8 (.int x))) = TW cI u o (upd i 23 x) a g := rfl
  rw [h] at hP hD
  exact ⟨hP, hD⟩
theorem xg_6_9 {u o : Nat → Nat} {i : Nat → Int32} : (xf_6 u o i)[9]? = some (.ref ((u 39))) := rfl
theorem xg_6_10 {u o : Nat → Nat} {i : Nat → Int32} : (xf_6 u o i)[10]? = some (.ref ((u 40))) := rfl
theorem xg_7_0 {u o : Nat → Nat} {i : Nat → Int32} : (xf_7 u o i)[0]? = some (.ref ((u 1))) := rfl
theorem xg_7_1 {u o : Nat → Nat} {i : Nat → Int32} : (xf_7 u o i)[1]? = some (.ref ((u 4))) := rfl
theorem xg_7_2 {u o : Nat → Nat} {i : Nat → Int32} : (xf_7 u o i)[2]? = some (.ref ((u 41))) := rfl
theorem xg_7_3 {u o : Nat → Nat} {i : Nat → Int32} : (xf_7 u o i)[3]? = some (.int (i 24)) := rfl
theorem xl_7_3 {u o : Nat → Nat} {i : Nat → Int32} : 3 < (xf_7 u o i).length := Nat.le_of_ble_eq_true rfl
theorem xw_24 {cI : ClassId} {u o : Nat → Nat} {i : Nat → Int32} {a : Nat → Nat → Int32} {g : Nat → Nat} {i2 : Nat → Int32} {x : Int32} {D : va_G} {H : Heap} {A : Nat → Prop} (e : i2 = upd i 24 x) (hP : va_P D classes ((TW cI u o i a g).set 7 (u 7, .inr (7, (xf_7 u o i).set 3 (.int x)))) H) (hD : va_D A ((TW cI u o i a g).set 7 (u 7, .inr (7, (xf_7 u o i).set 3 (.int x))))) : va_P D classes (TW cI u o i2 a g) H ∧ va_D A (TW cI u o i2 a g) := by
  subst e
  have h : (TW cI u o i a g).set 7 (u 7, .inr (7, (xf_7 u o i).set 3 (.int x))) = TW cI u o (upd i 24 x) a g := rfl
  rw [h] at hP hD
  exact ⟨hP, hD⟩
theorem xg_7_4 {u o : Nat → Nat} {i : Nat → Int32} : (xf_7 u o i)[4]? = some (.int (i 25)) := rfl
theorem xl_7_4 {u o : Nat → Nat} {i : Nat → Int32} : 4 < (xf_7 u o i).length := Nat.le_of_ble_eq_true rfl
theorem xw_25 {cI : ClassId} {u o : Nat → Nat} {i : Nat → Int32} {a : Nat → Nat → Int32} {g : Nat → Nat} {i2 : Nat → Int32} {x : Int32} {D : va_G} {H : Heap} {A : Nat → Prop} (e : i2 = upd i 25 x) (hP : va_P D classes ((TW cI u o i a g).set 7 (u 7, .inr (7, (xf_7 u o i).set 4 (.int x)))) H) (hD : va_D A ((TW cI u o i a g).set 7 (u 7, .inr (7, (xf_7 u o i).set 4 (.int x))))) : va_P D classes (TW cI u o i2 a g) H ∧ va_D A (TW cI u o i2 a g) := by
  subst e
  have h : (TW cI u o i a g).set 7 (u 7, .inr (7, (xf_7 u o i).set 4 (.int x))) = TW cI u o (upd i 25 x) a g := rfl
  rw [h] at hP hD
  exact ⟨hP, hD⟩
theorem xg_7_5 {u o : Nat → Nat} {i : Nat → Int32} : (xf_7 u o i)[5]? = some (.int (i 26)) := rfl
theorem xl_7_5 {u o : Nat → Nat} {i : Nat → Int32} : 5 < (xf_7 u o i).length := Nat.le_of_ble_eq_true rfl
theorem xw_26 {cI : ClassId} {u o : Nat → Nat} {i : Nat → Int32} {a : Nat → Nat → Int32} {g : Nat → Nat} {i2 : Nat → Int32} {x : Int32} {D : va_G} {H : Heap} {A : Nat → Prop} (e : i2 = upd i 26 x) (hP : va_P D classes ((TW cI u o i a g).set 7 (u 7, .inr (7, (xf_7 u o i).set 5 (.int x)))) H) (hD : va_D A ((TW cI u o i a g).set 7 (u 7, .inr (7, (xf_7 u o i).set 5 (.int x))))) : va_P D classes (TW cI u o i2 a g) H ∧ va_D A (TW cI u o i2 a g) := by
  subst e
  have h : (TW cI u o i a g).set 7 (u 7, .inr (7, (xf_7 u o i).set 5 (.int x))) = TW cI u o (upd i 26 x) a g := rfl
  rw [h] at hP hD
  exact ⟨hP, hD⟩
theorem xg_7_6 {u o : Nat → Nat} {i : Nat → Int32} : (xf_7 u o i)[6]? = some (.int (i 27)) := rfl
theorem xl_7_6 {u o : Nat → Nat} {i : Nat → Int32} : 6 < (xf_7 u o i).length := Nat.le_of_ble_eq_true rfl
theorem xw_27 {cI : ClassId} {u o : Nat → Nat} {i : Nat → Int32} {a : Nat → Nat → Int32} {g : Nat → Nat} {i2 : Nat → Int32} {x : Int32} {D : va_G} {H : Heap} {A : Nat → Prop} (e : i2 = upd i 27 x) (hP : va_P D classes ((TW cI u o i a g).set 7 (u 7, .inr (7, (xf_7 u o i).set 6 (.int x)))) H) (hD : va_D A ((TW cI u o i a g).set 7 (u 7, .inr (7, (xf_7 u o i).set 6 (.int x))))) : va_P D classes (TW cI u o i2 a g) H ∧ va_D A (TW cI u o i2 a g) := by
  subst e
  have h : (TW cI u o i a g).set 7 (u 7, .inr (7, (xf_7 u o i).set 6 (.int x))) = TW cI u o (upd i 27 x) a g := rfl
  rw [h] at hP hD
  exact ⟨hP, hD⟩
theorem xg_7_7 {u o : Nat → Nat} {i : Nat → Int32} : (xf_7 u o i)[7]? = some (.ref ((u 42))) := rfl
theorem xg_7_8 {u o : Nat → Nat} {i : Nat → Int32} : (xf_7 u o i)[8]? = some (.int (i 28)) := rfl
theorem xl_7_8 {u o : Nat → Nat} {i : Nat → Int32} : 8 < (xf_7 u o i).length := Nat.le_of_ble_eq_true rfl
theorem xw_28 {cI : ClassId} {u o : Nat → Nat} {i : Nat → Int32} {a : Nat → Nat → Int32} {g : Nat → Nat} {i2 : Nat → Int32} {x : Int32} {D : va_G} {H : Heap} {A : Nat → Prop} (e : i2 = upd i 28 x) (hP : va_P D classes ((TW cI u o i a g).set 7 (u 7, .inr (7, (xf_7 u o i).set 8 (.int x)))) H) (hD : va_D A ((TW cI u o i a g).set 7 (u 7, .inr (7, (xf_7 u o i).set 8 (.int x))))) : va_P D classes (TW cI u o i2 a g) H ∧ va_D A (TW cI u o i2 a g) := by
  subst e
  have h : (TW cI u o i a g).set 7 (u 7, .inr (7, (xf_7 u o i).set 8 (.int x))) = TW cI u o (upd i 28 x) a g := rfl
  rw [h] at hP hD
  exact ⟨hP, hD⟩
theorem xg_7_9 {u o : Nat → Nat} {i : Nat → Int32} : (xf_7 u o i)[9]? = some (.ref ((u 43))) := rfl
theorem xg_7_10 {u o : Nat → Nat} {i : Nat → Int32} : (xf_7 u o i)[10]? = some (.int (i 29)) := rfl
theorem xl_7_10 {u o : Nat → Nat} {i : Nat → Int32} : 10 < (xf_7 u o i).length := Nat.le_of_ble_eq_true rfl
theorem xw_29 {cI : ClassId} {u o : Nat → Nat} {i : Nat → Int32} {a : Nat → Nat → Int32} {g : Nat → Nat} {i2 : Nat → Int32} {x : Int32} {D : va_G} {H : Heap} {A : Nat → Prop} (e : i2 = upd i 29 x) (hP : va_P D classes ((TW cI u o i a g).set 7 (u 7, .inr (7, (xf_7 u o i).set 10 (.int x)))) H) (hD : va_D A ((TW cI u o i a g).set 7 (u 7, .inr (7, (xf_7 u o i).set 10 (.int x))))) : va_P D classes (TW cI u o i2 a g) H ∧ va_D A (TW cI u o i2 a g) := by
  subst e
  have h : (TW cI u o i a g).set 7 (u 7, .inr (7, (xf_7 u o i).set 10 (.int x))) = TW cI u o (upd i 29 x) a g := rfl
  rw [h] at hP hD
  exact ⟨hP, hD⟩
theorem xg_7_11 {u o : Nat → Nat} {i : Nat → Int32} : (xf_7 u o i)[11]? = some (.int (i 30)) := rfl
theorem xl_7_11 {u o : Nat → Nat} {i : Nat → Int32} : 11 < (xf_7 u o i).length := Nat.le_of_ble_eq_true rfl
theorem xw_30 {cI : ClassId} {u o : Nat → Nat} {i : Nat → Int32} {a : Nat → Nat → Int32} {g : Nat → Nat} {i2 : Nat → Int32} {x : Int32} {D : va_G} {H : Heap} {A : Nat → Prop} (e : i2 = upd i 30 x) (hP : va_P D classes ((TW cI u o i a g).set 7 (u 7, .inr (7, (xf_7 u o i).set 11 (.int x)))) H) (hD : va_D A ((TW cI u o i a g).set 7 (u 7, .inr (7, (xf_7 u o i).set 11 (.int x))))) : va_P D classes (TW cI u o i2 a g) H ∧ va_D A (TW cI u o i2 a g) := by
  subst e
  have h : (TW cI u o i a g).set 7 (u 7, .inr (7, (xf_7 u o i).set 11 (.int x))) = TW cI u o (upd i 30 x) a g := rfl
  rw [h] at hP hD
  exact ⟨hP, hD⟩
theorem xg_7_12 {u o : Nat → Nat} {i : Nat → Int32} : (xf_7 u o i)[12]? = some (.int (i 31)) := rfl
theorem xl_7_12 {u o : Nat → Nat} {i : Nat → Int32} : 12 < (xf_7 u o i).length := Nat.le_of_ble_eq_true rfl
theorem xw_31 {cI : ClassId} {u o : Nat → Nat} {i : Nat → Int32} {a : Nat → Nat → Int32} {g : Nat → Nat} {i2 : Nat → Int32} {x : Int32} {D : va_G} {H : Heap} {A : Nat → Prop} (e : i2 = upd i 31 x) (hP : va_P D classes ((TW cI u o i a g).set 7 (u 7, .inr (7, (xf_7 u o i).set 12 (.int x)))) H) (hD : va_D A ((TW cI u o i a g).set 7 (u 7, .inr (7, (xf_7 u o i).set 12 (.int x))))) : va_P D classes (TW cI u o i2 a g) H ∧ va_D A (TW cI u o i2 a g) := by
  subst e
  have h : (TW cI u o i a g).set 7 (u 7, .inr (7, (xf_7 u o i).set 12 (.int x))) = TW cI u o (upd i 31 x) a g := rfl
  rw [h] at hP hD
  exact ⟨hP, hD⟩
theorem xg_7_13 {u o : Nat → Nat} {i : Nat → Int32} : (xf_7 u o i)[13]? = some (.int (i 32)) := rfl
theorem xl_7_13 {u o : Nat → Nat} {i : Nat → Int32} : 13 < (xf_7 u o i).length := Nat.le_of_ble_eq_true rfl
theorem xw_32 {cI : ClassId} {u o : Nat → Nat} {i : Nat → Int32} {a : Nat → Nat → Int32} {g : Nat → Nat} {i2 : Nat → Int32} {x : Int32} {D : va_G} {H : Heap} {A : Nat → Prop} (e : i2 = upd i 32 x) (hP : va_P D classes ((TW cI u o i a g).set 7 (u 7, .inr (7, (xf_7 u o i).set 13 (.int x)))) H) (hD : va_D A ((TW cI u o i a g).set 7 (u 7, .inr (7, (xf_7 u o i).set 13 (.int x))))) : va_P D classes (TW cI u o i2 a g) H ∧ va_D A (TW cI u o i2 a g) := by
  subst e
  have h : (TW cI u o i a g).set 7 (u 7, .inr (7, (xf_7 u o i).set 13 (.int x))) = TW cI u o (upd i 32 x) a g := rfl
  rw [h] at hP hD
  exact ⟨hP, hD⟩
theorem xg_7_14 {u o : Nat → Nat} {i : Nat → Int32} : (xf_7 u o i)[14]? = some (.ref ((u 44))) := rfl
theorem xg_7_15 {u o : Nat → Nat} {i : Nat → Int32} : (xf_7 u o i)[15]? = some (.ref ((u 45))) := rfl
theorem xg_7_16 {u o : Nat → Nat} {i : Nat → Int32} : (xf_7 u o i)[16]? = some (.ref ((u 46))) := rfl
theorem xg_7_17 {u o : Nat → Nat} {i : Nat → Int32} : (xf_7 u o i)[17]? = some (.int (i 33)) := rfl
theorem xl_7_17 {u o : Nat → Nat} {i : Nat → Int32} : 17 < (xf_7 u o i).length := Nat.le_of_ble_eq_true rfl
theorem xw_33 {cI : ClassId} {u o : Nat → Nat} {i : Nat → Int32} {a : Nat → Nat → Int32} {g : Nat → Nat} {i2 : Nat → Int32} {x : Int32} {D : va_G} {H : Heap} {A : Nat → Prop} (e : i2 = upd i 33 x) (hP : va_P D classes ((TW cI u o i a g).set 7 (u 7, .inr (7, (xf_7 u o i).set 17 (.int x)))) H) (hD : va_D A ((TW cI u o i a g).set 7 (u 7, .inr (7, (xf_7 u o i).set 17 (.int x))))) : va_P D classes (TW cI u o i2 a g) H ∧ va_D A (TW cI u o i2 a g) := by
  subst e
  have h : (TW cI u o i a g).set 7 (u 7, .inr (7, (xf_7 u o i).set 17 (.int x))) = TW cI u o (upd i 33 x) a g := rfl
  rw [h] at hP hD
  exact ⟨hP, hD⟩
theorem xg_7_18 {u o : Nat → Nat} {i : Nat → Int32} : (xf_7 u o i)[18]? = some (.int (i 34)) := rfl
theorem xl_7_18 {u o : Nat → Nat} {i : Nat → Int32} : 18 < (xf_7 u o i).length := Nat.le_of_ble_eq_true rfl
theorem xw_34 {cI : ClassId} {u o : Nat → Nat} {i : Nat → Int32} {a : Nat → Nat → Int32} {g : Nat → Nat} {i2 : Nat → Int32} {x : Int32} {D : va_G} {H : Heap} {A : Nat → Prop} (e : i2 = upd i 34 x) (hP : va_P D classes ((TW cI u o i a g).set 7 (u 7, .inr (7, (xf_7 u o i).set 18 (.int x)))) H) (hD : va_D A ((TW cI u o i a g).set 7 (u 7, .inr (7, (xf_7 u o i).set 18 (.int x))))) : va_P D classes (TW cI u o i2 a g) H ∧ va_D A (TW cI u o i2 a g) := by
  subst e
  have h : (TW cI u o i a g).set 7 (u 7, .inr (7, (xf_7 u o i).set 18 (.int x))) = TW cI u o (upd i 34 x) a g := rfl
  rw [h] at hP hD
  exact ⟨hP, hD⟩
theorem xg_8_0 {u o : Nat → Nat} {i : Nat → Int32} : (xf_8 u o i)[0]? = some (.ref ((u 1))) := rfl
theorem xg_8_1 {u o : Nat → Nat} {i : Nat → Int32} : (xf_8 u o i)[1]? = some (.int (i 35)) := rfl
theorem xl_8_1 {u o : Nat → Nat} {i : Nat → Int32} : 1 < (xf_8 u o i).length := Nat.le_of_ble_eq_true rfl
theorem xw_35 {cI : ClassId} {u o : Nat → Nat} {i : Nat → Int32} {a : Nat → Nat → Int32} {g : Nat → Nat} {i2 : Nat → Int32} {x : Int32} {D : va_G} {H : Heap} {A : Nat → Prop} (e : i2 = upd i 35 x) (hP : va_P D classes ((TW cI u o i a g).set 8 (u 8, .inr (8, (xf_8 u o i).set 1 (.int x)))) H) (hD : va_D A ((TW cI u o i a g).set 8 (u 8, .inr (8, (xf_8 u o i).set 1 (.int x))))) : va_P D classes (TW cI u o i2 a g) H ∧ va_D A (TW cI u o i2 a g) := by
  subst e
  have h : (TW cI u o i a g).set 8 (u 8, .inr (8, (xf_8 u o i).set 1 (.int x))) = TW cI u o (upd i 35 x) a g := rfl
  rw [h] at hP hD
  exact ⟨hP, hD⟩
theorem xg_8_2 {u o : Nat → Nat} {i : Nat → Int32} : (xf_8 u o i)[2]? = some (.int (i 36)) := rfl
theorem xl_8_2 {u o : Nat → Nat} {i : Nat → Int32} : 2 < (xf_8 u o i).length := Nat.le_of_ble_eq_true rfl
theorem xw_36 {cI : ClassId} {u o : Nat → Nat} {i : Nat → Int32} {a : Nat → Nat → Int32} {g : Nat → Nat} {i2 : Nat → Int32} {x : Int32} {D : va_G} {H : Heap} {A : Nat → Prop} (e : i2 = upd i 36 x) (hP : va_P D classes ((TW cI u o i a g).set 8 (u 8, .inr (8, (xf_8 u o i).set 2 (.int x)))) H) (hD : va_D A ((TW cI u o i a g).set 8 (u 8, .inr (8, (xf_8 u o i).set 2 (.int x))))) : va_P D classes (TW cI u o i2 a g) H ∧ va_D A (TW cI u o i2 a g) := by
  subst e
  have h : (TW cI u o i a g).set 8 (u 8, .inr (8, (xf_8 u o i).set 2 (.int x))) = TW cI u o (upd i 36 x) a g := rfl
  rw [h] at hP hD
  exact ⟨hP, hD⟩
theorem xg_8_3 {u o : Nat → Nat} {i : Nat → Int32} : (xf_8 u o i)[3]? = some (.int (i 37)) := rfl
theorem xl_8_3 {u o : Nat → Nat} {i : Nat → Int32} : 3 < (xf_8 u o i).length := Nat.le_of_ble_eq_true rfl
theorem xw_37 {cI : ClassId} {u o : Nat → Nat} {i : Nat → Int32} {a : Nat → Nat → Int32} {g : Nat → Nat} {i2 : Nat → Int32} {x : Int32} {D : va_G} {H : Heap} {A : Nat → Prop} (e : i2 = upd i 37 x) (hP : va_P D classes ((TW cI u o i a g).set 8 (u 8, .inr (8, (xf_8 u o i).set 3 (.int x)))) H) (hD : va_D A ((TW cI u o i a g).set 8 (u 8, .inr (8, (xf_8 u o i).set 3 (.int x))))) : va_P D classes (TW cI u o i2 a g) H ∧ va_D A (TW cI u o i2 a g) := by
  subst e
  have h : (TW cI u o i a g).set 8 (u 8, .inr (8, (xf_8 u o i).set 3 (.int x))) = TW cI u o (upd i 37 x) a g := rfl
  rw [h] at hP hD
  exact ⟨hP, hD⟩
theorem xg_8_4 {u o : Nat → Nat} {i : Nat → Int32} : (xf_8 u o i)[4]? = some (.int (i 38)) := rfl
theorem xl_8_4 {u o : Nat → Nat} {i : Nat → Int32} : 4 < (xf_8 u o i).length := Nat.le_of_ble_eq_true rfl
theorem xw_38 {cI : ClassId} {u o : Nat → Nat} {i : Nat → Int32} {a : Nat → Nat → Int32} {g : Nat → Nat} {i2 : Nat → Int32} {x : Int32} {D : va_G} {H : Heap} {A : Nat → Prop} (e : i2 = upd i 38 x) (hP : va_P D classes ((TW cI u o i a g).set 8 (u 8, .inr (8, (xf_8 u o i).set 4 (.int x)))) H) (hD : va_D A ((TW cI u o i a g).set 8 (u 8, .inr (8, (xf_8 u o i).set 4 (.int x))))) : va_P D classes (TW cI u o i2 a g) H ∧ va_D A (TW cI u o i2 a g) := by
  subst e
  have h : (TW cI u o i a g).set 8 (u 8, .inr (8, (xf_8 u o i).set 4 (.int x))) = TW cI u o (upd i 38 x) a g := rfl
  rw [h] at hP hD
  exact ⟨hP, hD⟩
theorem xg_8_5 {u o : Nat → Nat} {i : Nat → Int32} : (xf_8 u o i)[5]? = some (.int (i 39)) := rfl
theorem xl_8_5 {u o : Nat → Nat} {i : Nat → Int32} : 5 < (xf_8 u o i).length := Nat.le_of_ble_eq_true rfl
theorem xw_39 {cI : ClassId} {u o : Nat → Nat} {i : Nat → Int32} {a : Nat → Nat → Int32} {g : Nat → Nat} {i2 : Nat → Int32} {x : Int32} {D : va_G} {H : Heap} {A : Nat → Prop} (e : i2 = upd i 39 x) (hP : va_P D classes ((TW cI u o i a g).set 8 (u 8, .inr (8, (xf_8 u o i).set 5 (.int x)))) H) (hD : va_D A ((TW cI u o i a g).set 8 (u 8, .inr (8, (xf_8 u o i).set 5 (.int x))))) : va_P D classes (TW cI u o i2 a g) H ∧ va_D A (TW cI u o i2 a g) := by
  subst e
  have h : (TW cI u o i a g).set 8 (u 8, .inr (8, (xf_8 u o i).set 5 (.int x))) = TW cI u o (upd i 39 x) a g := rfl
  rw [h] at hP hD
  exact ⟨hP, hD⟩
theorem xg_8_6 {u o : Nat → Nat} {i : Nat → Int32} : (xf_8 u o i)[6]? = some (.int (i 40)) := rfl
theorem xl_8_6 {u o : Nat → Nat} {i : Nat → Int32} : 6 < (xf_8 u o i).length := Nat.le_of_ble_eq_true rfl
theorem xw_40 {cI : ClassId} {u o : Nat → Nat} {i : Nat → Int32} {a : Nat → Nat → Int32} {g : Nat → Nat} {i2 : Nat → Int32} {x : Int32} {D : va_G} {H : Heap} {A : Nat → Prop} (e : i2 = upd i 40 x) (hP : va_P D classes ((TW cI u o i a g).set 8 (u 8, .inr (8, (xf_8 u o i).set 6 (.int x)))) H) (hD : va_D A ((TW cI u o i a g).set 8 (u 8, .inr (8, (xf_8 u o i).set 6 (.int x))))) : va_P D classes (TW cI u o i2 a g) H ∧ va_D A (TW cI u o i2 a g) := by
  subst e
  have h : (TW cI u o i a g).set 8 (u 8, .inr (8, (xf_8 u o i).set 6 (.int x))) = TW cI u o (upd i 40 x) a g := rfl
  rw [h] at hP hD
  exact ⟨hP, hD⟩
theorem xg_8_7 {u o : Nat → Nat} {i : Nat → Int32} : (xf_8 u o i)[7]? = some (.int (i 41)) := rfl
theorem xl_8_7 {u o : Nat → Nat} {i : Nat → Int32} : 7 < (xf_8 u o i).length := Nat.le_of_ble_eq_true rfl
theorem xw_41 {cI : ClassId} {u o : Nat → Nat} {i : Nat → Int32} {a : Nat → Nat → Int32} {g : Nat → Nat} {i2 : Nat → Int32} {x : Int32} {D : va_G} {H : Heap} {A : Nat → Prop} (e : i2 = upd i 41 x) (hP : va_P D classes ((TW cI u o i a g).set 8 (u 8, .inr (8, (xf_8 u o i).set 7 (.int x)))) H) (hD : va_D A ((TW cI u o i a g).set 8 (u 8, .inr (8, (xf_8 u o i).set 7 (.int x))))) : va_P D classes (TW cI u o i2 a g) H ∧ va_D A (TW cI u o i2 a g) := by
  subst e
  have h : (TW cI u o i a g).set 8 (u 8, .inr (8, (xf_8 u o i).set 7 (.int x))) = TW cI u o (upd i 41 x) a g := rfl
  rw [h] at hP hD
  exact ⟨hP, hD⟩
theorem xg_8_8 {u o : Nat → Nat} {i : Nat → Int32} : (xf_8 u o i)[8]? = some (.ref ((u 47))) := rfl
theorem xg_8_9 {u o : Nat → Nat} {i : Nat → Int32} : (xf_8 u o i)[9]? = some (.ref ((u 48))) := rfl
theorem xg_8_10 {u o : Nat → Nat} {i : Nat → Int32} : (xf_8 u o i)[10]? = some (.ref ((u 49))) := rfl
theorem xg_8_11 {u o : Nat → Nat} {i : Nat → Int32} : (xf_8 u o i)[11]? = some (.ref ((u 50))) := rfl
theorem xg_8_12 {u o : Nat → Nat} {i : Nat → Int32} : (xf_8 u o i)[12]? = some (.ref ((u 51))) := rfl
theorem xg_8_13 {u o : Nat → Nat} {i : Nat → Int32} : (xf_8 u o i)[13]? = some (.ref ((u 52))) := rfl
theorem xg_8_14 {u o : Nat → Nat} {i : Nat → Int32} : (xf_8 u o i)[14]? = some (.ref ((u 53))) := rfl
theorem xg_8_15 {u o : Nat → Nat} {i : Nat → Int32} : (xf_8 u o i)[15]? = some (.ref ((u 54))) := rfl
theorem xg_8_16 {u o : Nat → Nat} {i : Nat → Int32} : (xf_8 u o i)[16]? = some (.ref ((u 55))) := rfl
theorem xg_8_17 {u o : Nat → Nat} {i : Nat → Int32} : (xf_8 u o i)[17]? = some (.ref ((u 56))) := rfl
theorem xg_9_0 {u o : Nat → Nat} {i : Nat → Int32} : (xf_9 u o i)[0]? = some (.ref ((u 57))) := rfl
theorem xg_9_1 {u o : Nat → Nat} {i : Nat → Int32} : (xf_9 u o i)[1]? = some (.ref ((u 58))) := rfl
theorem xg_9_2 {u o : Nat → Nat} {i : Nat → Int32} : (xf_9 u o i)[2]? = some (.ref ((u 59))) := rfl
theorem xg_9_3 {u o : Nat → Nat} {i : Nat → Int32} : (xf_9 u o i)[3]? = some (.ref ((u 60))) := rfl
theorem xg_9_4 {u o : Nat → Nat} {i : Nat → Int32} : (xf_9 u o i)[4]? = some (.ref ((u 61))) := rfl
theorem xg_9_5 {u o : Nat → Nat} {i : Nat → Int32} : (xf_9 u o i)[5]? = some (.ref ((u 62))) := rfl
theorem xg_9_6 {u o : Nat → Nat} {i : Nat → Int32} : (xf_9 u o i)[6]? = some (.ref ((u 63))) := rfl
theorem xg_9_7 {u o : Nat → Nat} {i : Nat → Int32} : (xf_9 u o i)[7]? = some (.int (i 42)) := rfl
theorem xl_9_7 {u o : Nat → Nat} {i : Nat → Int32} : 7 < (xf_9 u o i).length := Nat.le_of_ble_eq_true rfl
theorem xw_42 {cI : ClassId} {u o : Nat → Nat} {i : Nat → Int32} {a : Nat → Nat → Int32} {g : Nat → Nat} {i2 : Nat → Int32} {x : Int32} {D : va_G} {H : Heap} {A : Nat → Prop} (e : i2 = upd i 42 x) (hP : va_P D classes ((TW cI u o i a g).set 9 (u 9, .inr (9, (xf_9 u o i).set 7 (.int x)))) H) (hD : va_D A ((TW cI u o i a g).set 9 (u 9, .inr (9, (xf_9 u o i).set 7 (.int x))))) : va_P D classes (TW cI u o i2 a g) H ∧ va_D A (TW cI u o i2 a g) := by
  subst e
  have h : (TW cI u o i a g).set 9 (u 9, .inr (9, (xf_9 u o i).set 7 (.int x))) = TW cI u o (upd i 42 x) a g := rfl
  rw [h] at hP hD
  exact ⟨hP, hD⟩
theorem xg_9_8 {u o : Nat → Nat} {i : Nat → Int32} : (xf_9 u o i)[8]? = some (.ref ((u 64))) := rfl
theorem xg_9_9 {u o : Nat → Nat} {i : Nat → Int32} : (xf_9 u o i)[9]? = some (.int (i 43)) := rfl
theorem xl_9_9 {u o : Nat → Nat} {i : Nat → Int32} : 9 < (xf_9 u o i).length := Nat.le_of_ble_eq_true rfl
theorem xw_43 {cI : ClassId} {u o : Nat → Nat} {i : Nat → Int32} {a : Nat → Nat → Int32} {g : Nat → Nat} {i2 : Nat → Int32} {x : Int32} {D : va_G} {H : Heap} {A : Nat → Prop} (e : i2 = upd i 43 x) (hP : va_P D classes ((TW cI u o i a g).set 9 (u 9, .inr (9, (xf_9 u o i).set 9 (.int x)))) H) (hD : va_D A ((TW cI u o i a g).set 9 (u 9, .inr (9, (xf_9 u o i).set 9 (.int x))))) : va_P D classes (TW cI u o i2 a g) H ∧ va_D A (TW cI u o i2 a g) := by
  subst e
  have h : (TW cI u o i a g).set 9 (u 9, .inr (9, (xf_9 u o i).set 9 (.int x))) = TW cI u o (upd i 43 x) a g := rfl
  rw [h] at hP hD
  exact ⟨hP, hD⟩
theorem xg_9_10 {u o : Nat → Nat} {i : Nat → Int32} : (xf_9 u o i)[10]? = some (.int (i 44)) := rfl
theorem xl_9_10 {u o : Nat → Nat} {i : Nat → Int32} : 10 < (xf_9 u o i).length := Nat.le_of_ble_eq_true rfl
theorem xw_44 {cI : ClassId} {u o : Nat → Nat} {i : Nat → Int32} {a : Nat → Nat → Int32} {g : Nat → Nat} {i2 : Nat → Int32} {x : Int32} {D : va_G} {H : Heap} {A : Nat → Prop} (e : i2 = upd i 44 x) (hP : va_P D classes ((TW cI u o i a g).set 9 (u 9, .inr (9, (xf_9 u o i).set 10 (.int x)))) H) (hD : va_D A ((TW cI u o i a g).set 9 (u 9, .inr (9, (xf_9 u o i).set 10 (.int x))))) : va_P D classes (TW cI u o i2 a g) H ∧ va_D A (TW cI u o i2 a g) := by
  subst e
  have h : (TW cI u o i a g).set 9 (u 9, .inr (9, (xf_9 u o i).set 10 (.int x))) = TW cI u o (upd i 44 x) a g := rfl
  rw [h] at hP hD
  exact ⟨hP, hD⟩
theorem xg_10_0 {u o : Nat → Nat} {i : Nat → Int32} : (xf_10 u o i)[0]? = some (.ref ((u 1))) := rfl
theorem xg_10_1 {u o : Nat → Nat} {i : Nat → Int32} : (xf_10 u o i)[1]? = some (.ref ((u 8))) := rfl
theorem xg_10_2 {u o : Nat → Nat} {i : Nat → Int32} : (xf_10 u o i)[2]? = some (.ref ((u 9))) := rfl
theorem xg_10_3 {u o : Nat → Nat} {i : Nat → Int32} : (xf_10 u o i)[3]? = some (.ref ((u 3))) := rfl
theorem xg_10_4 {u o : Nat → Nat} {i : Nat → Int32} : (xf_10 u o i)[4]? = some (.ref ((u 4))) := rfl
theorem xg_10_5 {u o : Nat → Nat} {i : Nat → Int32} : (xf_10 u o i)[5]? = some (.ref ((u 5))) := rfl
theorem xg_10_6 {u o : Nat → Nat} {i : Nat → Int32} : (xf_10 u o i)[6]? = some (.ref ((u 6))) := rfl
theorem xg_10_7 {u o : Nat → Nat} {i : Nat → Int32} : (xf_10 u o i)[7]? = some (.int (i 45)) := rfl
theorem xl_10_7 {u o : Nat → Nat} {i : Nat → Int32} : 7 < (xf_10 u o i).length := Nat.le_of_ble_eq_true rfl
theorem xw_45 {cI : ClassId} {u o : Nat → Nat} {i : Nat → Int32} {a : Nat → Nat → Int32} {g : Nat → Nat} {i2 : Nat → Int32} {x : Int32} {D : va_G} {H : Heap} {A : Nat → Prop} (e : i2 = upd i 45 x) (hP : va_P D classes ((TW cI u o i a g).set 10 (u 10, .inr (10, (xf_10 u o i).set 7 (.int x)))) H) (hD : va_D A ((TW cI u o i a g).set 10 (u 10, .inr (10, (xf_10 u o i).set 7 (.int x))))) : va_P D classes (TW cI u o i2 a g) H ∧ va_D A (TW cI u o i2 a g) := by
  subst e
  have h : (TW cI u o i a g).set 10 (u 10, .inr (10, (xf_10 u o i).set 7 (.int x))) = TW cI u o (upd i 45 x) a g := rfl
  rw [h] at hP hD
  exact ⟨hP, hD⟩
theorem xg_11_0 {u o : Nat → Nat} {i : Nat → Int32} : (xf_11 u o i)[0]? = some (.ref ((u 1))) := rfl
theorem xg_11_1 {u o : Nat → Nat} {i : Nat → Int32} : (xf_11 u o i)[1]? = some (.ref ((u 8))) := rfl
theorem xg_11_2 {u o : Nat → Nat} {i : Nat → Int32} : (xf_11 u o i)[2]? = some (.ref ((u 9))) := rfl
theorem xg_11_3 {u o : Nat → Nat} {i : Nat → Int32} : (xf_11 u o i)[3]? = some (.ref ((u 3))) := rfl
theorem xg_11_4 {u o : Nat → Nat} {i : Nat → Int32} : (xf_11 u o i)[4]? = some (.ref ((u 4))) := rfl
theorem xg_11_5 {u o : Nat → Nat} {i : Nat → Int32} : (xf_11 u o i)[5]? = some (.ref ((u 5))) := rfl
theorem xg_11_6 {u o : Nat → Nat} {i : Nat → Int32} : (xf_11 u o i)[6]? = some (.ref ((u 10))) := rfl
theorem xg_11_7 {u o : Nat → Nat} {i : Nat → Int32} : (xf_11 u o i)[7]? = some (.int (i 46)) := rfl
theorem xl_11_7 {u o : Nat → Nat} {i : Nat → Int32} : 7 < (xf_11 u o i).length := Nat.le_of_ble_eq_true rfl
theorem xw_46 {cI : ClassId} {u o : Nat → Nat} {i : Nat → Int32} {a : Nat → Nat → Int32} {g : Nat → Nat} {i2 : Nat → Int32} {x : Int32} {D : va_G} {H : Heap} {A : Nat → Prop} (e : i2 = upd i 46 x) (hP : va_P D classes ((TW cI u o i a g).set 11 (u 11, .inr (11, (xf_11 u o i).set 7 (.int x)))) H) (hD : va_D A ((TW cI u o i a g).set 11 (u 11, .inr (11, (xf_11 u o i).set 7 (.int x))))) : va_P D classes (TW cI u o i2 a g) H ∧ va_D A (TW cI u o i2 a g) := by
  subst e
  have h : (TW cI u o i a g).set 11 (u 11, .inr (11, (xf_11 u o i).set 7 (.int x))) = TW cI u o (upd i 46 x) a g := rfl
  rw [h] at hP hD
  exact ⟨hP, hD⟩
theorem xg_11_8 {u o : Nat → Nat} {i : Nat → Int32} : (xf_11 u o i)[8]? = some (.int (i 47)) := rfl
theorem xl_11_8 {u o : Nat → Nat} {i : Nat → Int32} : 8 < (xf_11 u o i).length := Nat.le_of_ble_eq_true rfl
theorem xw_47 {cI : ClassId} {u o : Nat → Nat} {i : Nat → Int32} {a : Nat → Nat → Int32} {g : Nat → Nat} {i2 : Nat → Int32} {x : Int32} {D : va_G} {H : Heap} {A : Nat → Prop} (e : i2 = upd i 47 x) (hP : va_P D classes ((TW cI u o i a g).set 11 (u 11, .inr (11, (xf_11 u o i).set 8 (.int x)))) H) (hD : va_D A ((TW cI u o i a g).set 11 (u 11, .inr (11, (xf_11 u o i).set 8 (.int x))))) : va_P D classes (TW cI u o i2 a g) H ∧ va_D A (TW cI u o i2 a g) := by
  subst e
  have h : (TW cI u o i a g).set 11 (u 11, .inr (11, (xf_11 u o i).set 8 (.int x))) = TW cI u o (upd i 47 x) a g := rfl
  rw [h] at hP hD
  exact ⟨hP, hD⟩
theorem xv_0 {cI : ClassId} {u o : Nat → Nat} {i : Nat → Int32} {a : Nat → Nat → Int32} {g : Nat → Nat} {a2 : Nat → Nat → Int32} {f : Nat → Int32} {D : va_G} {H : Heap} {A : Nat → Prop} (e : a2 = updA a 0 f) (hP : va_P D classes ((TW cI u o i a g).set 12 (o 0, .inl (cI, (g 0), .inl f))) H) (hD : va_D A ((TW cI u o i a g).set 12 (o 0, .inl (cI, (g 0), .inl f)))) : va_P D classes (TW cI u o i a2 g) H ∧ va_D A (TW cI u o i a2 g) := by
  subst e
  have h : (TW cI u o i a g).set 12 (o 0, .inl (cI, (g 0), .inl f)) = TW cI u o i (updA a 0 f) g := rfl
  rw [h] at hP hD
  exact ⟨hP, hD⟩
theorem xv_1 {cI : ClassId} {u o : Nat → Nat} {i : Nat → Int32} {a : Nat → Nat → Int32} {g : Nat → Nat} {a2 : Nat → Nat → Int32} {f : Nat → Int32} {D : va_G} {H : Heap} {A : Nat → Prop} (e : a2 = updA a 1 f) (hP : va_P D classes ((TW cI u o i a g).set 13 (o 1, .inl (cI, (g 1), .inl f))) H) (hD : va_D A ((TW cI u o i a g).set 13 (o 1, .inl (cI, (g 1), .inl f)))) : va_P D classes (TW cI u o i a2 g) H ∧ va_D A (TW cI u o i a2 g) := by
  subst e
  have h : (TW cI u o i a g).set 13 (o 1, .inl (cI, (g 1), .inl f)) = TW cI u o i (updA a 1 f) g := rfl
  rw [h] at hP hD
  exact ⟨hP, hD⟩
theorem xv_2 {cI : ClassId} {u o : Nat → Nat} {i : Nat → Int32} {a : Nat → Nat → Int32} {g : Nat → Nat} {a2 : Nat → Nat → Int32} {f : Nat → Int32} {D : va_G} {H : Heap} {A : Nat → Prop} (e : a2 = updA a 2 f) (hP : va_P D classes ((TW cI u o i a g).set 14 (u 12, .inl (cI, 700, .inl f))) H) (hD : va_D A ((TW cI u o i a g).set 14 (u 12, .inl (cI, 700, .inl f)))) : va_P D classes (TW cI u o i a2 g) H ∧ va_D A (TW cI u o i a2 g) := by
  subst e
  have h : (TW cI u o i a g).set 14 (u 12, .inl (cI, 700, .inl f)) = TW cI u o i (updA a 2 f) g := rfl
  rw [h] at hP hD
  exact ⟨hP, hD⟩
theorem xv_3 {cI : ClassId} {u o : Nat → Nat} {i : Nat → Int32} {a : Nat → Nat → Int32} {g : Nat → Nat} {a2 : Nat → Nat → Int32} {f : Nat → Int32} {D : va_G} {H : Heap} {A : Nat → Prop} (e : a2 = updA a 3 f) (hP : va_P D classes ((TW cI u o i a g).set 15 (u 13, .inl (cI, 700, .inl f))) H) (hD : va_D A ((TW cI u o i a g).set 15 (u 13, .inl (cI, 700, .inl f)))) : va_P D classes (TW cI u o i a2 g) H ∧ va_D A (TW cI u o i a2 g) := by
  subst e
  have h : (TW cI u o i a g).set 15 (u 13, .inl (cI, 700, .inl f)) = TW cI u o i (updA a 3 f) g := rfl
  rw [h] at hP hD
  exact ⟨hP, hD⟩
theorem xv_4 {cI : ClassId} {u o : Nat → Nat} {i : Nat → Int32} {a : Nat → Nat → Int32} {g : Nat → Nat} {a2 : Nat → Nat → Int32} {f : Nat → Int32} {D : va_G} {H : Heap} {A : Nat → Prop} (e : a2 = updA a 4 f) (hP : va_P D classes ((TW cI u o i a g).set 16 (u 14, .inl (cI, 700, .inl f))) H) (hD : va_D A ((TW cI u o i a g).set 16 (u 14, .inl (cI, 700, .inl f)))) : va_P D classes (TW cI u o i a2 g) H ∧ va_D A (TW cI u o i a2 g) := by
  subst e
  have h : (TW cI u o i a g).set 16 (u 14, .inl (cI, 700, .inl f)) = TW cI u o i (updA a 4 f) g := rfl
  rw [h] at hP hD
  exact ⟨hP, hD⟩
theorem xv_10 {cI : ClassId} {u o : Nat → Nat} {i : Nat → Int32} {a : Nat → Nat → Int32} {g : Nat → Nat} {a2 : Nat → Nat → Int32} {f : Nat → Int32} {D : va_G} {H : Heap} {A : Nat → Prop} (e : a2 = updA a 10 f) (hP : va_P D classes ((TW cI u o i a g).set 22 (u 20, .inl (cI, 64, .inl f))) H) (hD : va_D A ((TW cI u o i a g).set 22 (u 20, .inl (cI, 64, .inl f)))) : va_P D classes (TW cI u o i a2 g) H ∧ va_D A (TW cI u o i a2 g) := by
  subst e
  have h : (TW cI u o i a g).set 22 (u 20, .inl (cI, 64, .inl f)) = TW cI u o i (updA a 10 f) g := rfl
  rw [h] at hP hD
  exact ⟨hP, hD⟩
theorem xv_11 {cI : ClassId} {u o : Nat → Nat} {i : Nat → Int32} {a : Nat → Nat → Int32} {g : Nat → Nat} {a2 : Nat → Nat → Int32} {f : Nat → Int32} {D : va_G} {H : Heap} {A : Nat → Prop} (e : a2 = updA a 11 f) (hP : va_P D classes ((TW cI u o i a g).set 23 (u 21, .inl (cI, 64, .inl f))) H) (hD : va_D A ((TW cI u o i a g).set 23 (u 21, .inl (cI, 64, .inl f)))) : va_P D classes (TW cI u o i a2 g) H ∧ va_D A (TW cI u o i a2 g) := by
  subst e
  have h : (TW cI u o i a g).set 23 (u 21, .inl (cI, 64, .inl f)) = TW cI u o i (updA a 11 f) g := rfl
  rw [h] at hP hD
  exact ⟨hP, hD⟩
theorem xv_12 {cI : ClassId} {u o : Nat → Nat} {i : Nat → Int32} {a : Nat → Nat → Int32} {g : Nat → Nat} {a2 : Nat → Nat → Int32} {f : Nat → Int32} {D : va_G} {H : Heap} {A : Nat → Prop} (e : a2 = updA a 12 f) (hP : va_P D classes ((TW cI u o i a g).set 24 (u 22, .inl (cI, 1800, .inl f))) H) (hD : va_D A ((TW cI u o i a g).set 24 (u 22, .inl (cI, 1800, .inl f)))) : va_P D classes (TW cI u o i a2 g) H ∧ va_D A (TW cI u o i a2 g) := by
  subst e
  have h : (TW cI u o i a g).set 24 (u 22, .inl (cI, 1800, .inl f)) = TW cI u o i (updA a 12 f) g := rfl
  rw [h] at hP hD
  exact ⟨hP, hD⟩
theorem xv_13 {cI : ClassId} {u o : Nat → Nat} {i : Nat → Int32} {a : Nat → Nat → Int32} {g : Nat → Nat} {a2 : Nat → Nat → Int32} {f : Nat → Int32} {D : va_G} {H : Heap} {A : Nat → Prop} (e : a2 = updA a 13 f) (hP : va_P D classes ((TW cI u o i a g).set 25 (u 23, .inl (cI, 1800, .inl f))) H) (hD : va_D A ((TW cI u o i a g).set 25 (u 23, .inl (cI, 1800, .inl f)))) : va_P D classes (TW cI u o i a2 g) H ∧ va_D A (TW cI u o i a2 g) := by
  subst e
  have h : (TW cI u o i a g).set 25 (u 23, .inl (cI, 1800, .inl f)) = TW cI u o i (updA a 13 f) g := rfl
  rw [h] at hP hD
  exact ⟨hP, hD⟩
theorem xv_14 {cI : ClassId} {u o : Nat → Nat} {i : Nat → Int32} {a : Nat → Nat → Int32} {g : Nat → Nat} {a2 : Nat → Nat → Int32} {f : Nat → Int32} {D : va_G} {H : Heap} {A : Nat → Prop} (e : a2 = updA a 14 f) (hP : va_P D classes ((TW cI u o i a g).set 26 (u 24, .inl (cI, 64, .inl f))) H) (hD : va_D A ((TW cI u o i a g).set 26 (u 24, .inl (cI, 64, .inl f)))) : va_P D classes (TW cI u o i a2 g) H ∧ va_D A (TW cI u o i a2 g) := by
  subst e
  have h : (TW cI u o i a g).set 26 (u 24, .inl (cI, 64, .inl f)) = TW cI u o i (updA a 14 f) g := rfl
  rw [h] at hP hD
  exact ⟨hP, hD⟩
theorem xv_15 {cI : ClassId} {u o : Nat → Nat} {i : Nat → Int32} {a : Nat → Nat → Int32} {g : Nat → Nat} {a2 : Nat → Nat → Int32} {f : Nat → Int32} {D : va_G} {H : Heap} {A : Nat → Prop} (e : a2 = updA a 15 f) (hP : va_P D classes ((TW cI u o i a g).set 27 (u 25, .inl (cI, 40, .inl f))) H) (hD : va_D A ((TW cI u o i a g).set 27 (u 25, .inl (cI, 40, .inl f)))) : va_P D classes (TW cI u o i a2 g) H ∧ va_D A (TW cI u o i a2 g) := by
  subst e
  have h : (TW cI u o i a g).set 27 (u 25, .inl (cI, 40, .inl f)) = TW cI u o i (updA a 15 f) g := rfl
  rw [h] at hP hD
  exact ⟨hP, hD⟩
theorem xv_16 {cI : ClassId} {u o : Nat → Nat} {i : Nat → Int32} {a : Nat → Nat → Int32} {g : Nat → Nat} {a2 : Nat → Nat → Int32} {f : Nat → Int32} {D : va_G} {H : Heap} {A : Nat → Prop} (e : a2 = updA a 16 f) (hP : va_P D classes ((TW cI u o i a g).set 28 (u 26, .inl (cI, 40, .inl f))) H) (hD : va_D A ((TW cI u o i a g).set 28 (u 26, .inl (cI, 40, .inl f)))) : va_P D classes (TW cI u o i a2 g) H ∧ va_D A (TW cI u o i a2 g) := by
  subst e
  have h : (TW cI u o i a g).set 28 (u 26, .inl (cI, 40, .inl f)) = TW cI u o i (updA a 16 f) g := rfl
  rw [h] at hP hD
  exact ⟨hP, hD⟩
theorem xv_17 {cI : ClassId} {u o : Nat → Nat} {i : Nat → Int32} {a : Nat → Nat → Int32} {g : Nat → Nat} {a2 : Nat → Nat → Int32} {f : Nat → Int32} {D : va_G} {H : Heap} {A : Nat → Prop} (e : a2 = updA a 17 f) (hP : va_P D classes ((TW cI u o i a g).set 29 (u 27, .inl (cI, 40, .inl f))) H) (hD : va_D A ((TW cI u o i a g).set 29 (u 27, .inl (cI, 40, .inl f)))) : va_P D classes (TW cI u o i a2 g) H ∧ va_D A (TW cI u o i a2 g) := by
  subst e
  have h : (TW cI u o i a g).set 29 (u 27, .inl (cI, 40, .inl f)) = TW cI u o i (updA a 17 f) g := rfl
  rw [h] at hP hD
  exact ⟨hP, hD⟩
theorem xv_18 {cI : ClassId} {u o : Nat → Nat} {i : Nat → Int32} {a : Nat → Nat → Int32} {g : Nat → Nat} {a2 : Nat → Nat → Int32} {f : Nat → Int32} {D : va_G} {H : Heap} {A : Nat → Prop} (e : a2 = updA a 18 f) (hP : va_P D classes ((TW cI u o i a g).set 30 (u 28, .inl (cI, 40, .inl f))) H) (hD : va_D A ((TW cI u o i a g).set 30 (u 28, .inl (cI, 40, .inl f)))) : va_P D classes (TW cI u o i a2 g) H ∧ va_D A (TW cI u o i a2 g) := by
  subst e
  have h : (TW cI u o i a g).set 30 (u 28, .inl (cI, 40, .inl f)) = TW cI u o i (updA a 18 f) g := rfl
  rw [h] at hP hD
  exact ⟨hP, hD⟩
theorem xv_19 {cI : ClassId} {u o : Nat → Nat} {i : Nat → Int32} {a : Nat → Nat → Int32} {g : Nat → Nat} {a2 : Nat → Nat → Int32} {f : Nat → Int32} {D : va_G} {H : Heap} {A : Nat → Prop} (e : a2 = updA a 19 f) (hP : va_P D classes ((TW cI u o i a g).set 31 (u 29, .inl (cI, 40, .inl f))) H) (hD : va_D A ((TW cI u o i a g).set 31 (u 29, .inl (cI, 40, .inl f)))) : va_P D classes (TW cI u o i a2 g) H ∧ va_D A (TW cI u o i a2 g) := by
  subst e
  have h : (TW cI u o i a g).set 31 (u 29, .inl (cI, 40, .inl f)) = TW cI u o i (updA a 19 f) g := rfl
  rw [h] at hP hD
  exact ⟨hP, hD⟩
theorem xv_20 {cI : ClassId} {u o : Nat → Nat} {i : Nat → Int32} {a : Nat → Nat → Int32} {g : Nat → Nat} {a2 : Nat → Nat → Int32} {f : Nat → Int32} {D : va_G} {H : Heap} {A : Nat → Prop} (e : a2 = updA a 20 f) (hP : va_P D classes ((TW cI u o i a g).set 32 (u 30, .inl (cI, 56, .inl f))) H) (hD : va_D A ((TW cI u o i a g).set 32 (u 30, .inl (cI, 56, .inl f)))) : va_P D classes (TW cI u o i a2 g) H ∧ va_D A (TW cI u o i a2 g) := by
  subst e
  have h : (TW cI u o i a g).set 32 (u 30, .inl (cI, 56, .inl f)) = TW cI u o i (updA a 20 f) g := rfl
  rw [h] at hP hD
  exact ⟨hP, hD⟩
theorem xv_21 {cI : ClassId} {u o : Nat → Nat} {i : Nat → Int32} {a : Nat → Nat → Int32} {g : Nat → Nat} {a2 : Nat → Nat → Int32} {f : Nat → Int32} {D : va_G} {H : Heap} {A : Nat → Prop} (e : a2 = updA a 21 f) (hP : va_P D classes ((TW cI u o i a g).set 33 (u 31, .inl (cI, 4096, .inl f))) H) (hD : va_D A ((TW cI u o i a g).set 33 (u 31, .inl (cI, 4096, .inl f)))) : va_P D classes (TW cI u o i a2 g) H ∧ va_D A (TW cI u o i a2 g) := by
  subst e
  have h : (TW cI u o i a g).set 33 (u 31, .inl (cI, 4096, .inl f)) = TW cI u o i (updA a 21 f) g := rfl
  rw [h] at hP hD
  exact ⟨hP, hD⟩
theorem xv_22 {cI : ClassId} {u o : Nat → Nat} {i : Nat → Int32} {a : Nat → Nat → Int32} {g : Nat → Nat} {a2 : Nat → Nat → Int32} {f : Nat → Int32} {D : va_G} {H : Heap} {A : Nat → Prop} (e : a2 = updA a 22 f) (hP : va_P D classes ((TW cI u o i a g).set 34 (u 32, .inl (cI, 4, .inl f))) H) (hD : va_D A ((TW cI u o i a g).set 34 (u 32, .inl (cI, 4, .inl f)))) : va_P D classes (TW cI u o i a2 g) H ∧ va_D A (TW cI u o i a2 g) := by
  subst e
  have h : (TW cI u o i a g).set 34 (u 32, .inl (cI, 4, .inl f)) = TW cI u o i (updA a 22 f) g := rfl
  rw [h] at hP hD
  exact ⟨hP, hD⟩
theorem xv_23 {cI : ClassId} {u o : Nat → Nat} {i : Nat → Int32} {a : Nat → Nat → Int32} {g : Nat → Nat} {a2 : Nat → Nat → Int32} {f : Nat → Int32} {D : va_G} {H : Heap} {A : Nat → Prop} (e : a2 = updA a 23 f) (hP : va_P D classes ((TW cI u o i a g).set 35 (u 33, .inl (cI, 4, .inl f))) H) (hD : va_D A ((TW cI u o i a g).set 35 (u 33, .inl (cI, 4, .inl f)))) : va_P D classes (TW cI u o i a2 g) H ∧ va_D A (TW cI u o i a2 g) := by
  subst e
  have h : (TW cI u o i a g).set 35 (u 33, .inl (cI, 4, .inl f)) = TW cI u o i (updA a 23 f) g := rfl
  rw [h] at hP hD
  exact ⟨hP, hD⟩
theorem xv_24 {cI : ClassId} {u o : Nat → Nat} {i : Nat → Int32} {a : Nat → Nat → Int32} {g : Nat → Nat} {a2 : Nat → Nat → Int32} {f : Nat → Int32} {D : va_G} {H : Heap} {A : Nat → Prop} (e : a2 = updA a 24 f) (hP : va_P D classes ((TW cI u o i a g).set 36 (u 34, .inl (cI, 56, .inl f))) H) (hD : va_D A ((TW cI u o i a g).set 36 (u 34, .inl (cI, 56, .inl f)))) : va_P D classes (TW cI u o i a2 g) H ∧ va_D A (TW cI u o i a2 g) := by
  subst e
  have h : (TW cI u o i a g).set 36 (u 34, .inl (cI, 56, .inl f)) = TW cI u o i (updA a 24 f) g := rfl
  rw [h] at hP hD
  exact ⟨hP, hD⟩
theorem xv_25 {cI : ClassId} {u o : Nat → Nat} {i : Nat → Int32} {a : Nat → Nat → Int32} {g : Nat → Nat} {a2 : Nat → Nat → Int32} {f : Nat → Int32} {D : va_G} {H : Heap} {A : Nat → Prop} (e : a2 = updA a 25 f) (hP : va_P D classes ((TW cI u o i a g).set 37 (u 35, .inl (cI, 4096, .inl f))) H) (hD : va_D A ((TW cI u o i a g).set 37 (u 35, .inl (cI, 4096, .inl f)))) : va_P D classes (TW cI u o i a2 g) H ∧ va_D A (TW cI u o i a2 g) := by
  subst e
  have h : (TW cI u o i a g).set 37 (u 35, .inl (cI, 4096, .inl f)) = TW cI u o i (updA a 25 f) g := rfl
  rw [h] at hP hD
  exact ⟨hP, hD⟩
theorem xv_26 {cI : ClassId} {u o : Nat → Nat} {i : Nat → Int32} {a : Nat → Nat → Int32} {g : Nat → Nat} {a2 : Nat → Nat → Int32} {f : Nat → Int32} {D : va_G} {H : Heap} {A : Nat → Prop} (e : a2 = updA a 26 f) (hP : va_P D classes ((TW cI u o i a g).set 38 (u 36, .inl (cI, 2000, .inl f))) H) (hD : va_D A ((TW cI u o i a g).set 38 (u 36, .inl (cI, 2000, .inl f)))) : va_P D classes (TW cI u o i a2 g) H ∧ va_D A (TW cI u o i a2 g) := by
  subst e
  have h : (TW cI u o i a g).set 38 (u 36, .inl (cI, 2000, .inl f)) = TW cI u o i (updA a 26 f) g := rfl
  rw [h] at hP hD
  exact ⟨hP, hD⟩
theorem xv_27 {cI : ClassId} {u o : Nat → Nat} {i : Nat → Int32} {a : Nat → Nat → Int32} {g : Nat → Nat} {a2 : Nat → Nat → Int32} {f : Nat → Int32} {D : va_G} {H : Heap} {A : Nat → Prop} (e : a2 = updA a 27 f) (hP : va_P D classes ((TW cI u o i a g).set 39 (u 37, .inl (cI, 2000, .inl f))) H) (hD : va_D A ((TW cI u o i a g).set 39 (u 37, .inl (cI, 2000, .inl f)))) : va_P D classes (TW cI u o i a2 g) H ∧ va_D A (TW cI u o i a2 g) := by
  subst e
  have h : (TW cI u o i a g).set 39 (u 37, .inl (cI, 2000, .inl f)) = TW cI u o i (updA a 27 f) g := rfl
  rw [h] at hP hD
  exact ⟨hP, hD⟩
theorem xv_28 {cI : ClassId} {u o : Nat → Nat} {i : Nat → Int32} {a : Nat → Nat → Int32} {g : Nat → Nat} {a2 : Nat → Nat → Int32} {f : Nat → Int32} {D : va_G} {H : Heap} {A : Nat → Prop} (e : a2 = updA a 28 f) (hP : va_P D classes ((TW cI u o i a g).set 40 (u 38, .inl (cI, 8192, .inl f))) H) (hD : va_D A ((TW cI u o i a g).set 40 (u 38, .inl (cI, 8192, .inl f)))) : va_P D classes (TW cI u o i a2 g) H ∧ va_D A (TW cI u o i a2 g) := by
  subst e
  have h : (TW cI u o i a g).set 40 (u 38, .inl (cI, 8192, .inl f)) = TW cI u o i (updA a 28 f) g := rfl
  rw [h] at hP hD
  exact ⟨hP, hD⟩
theorem xv_29 {cI : ClassId} {u o : Nat → Nat} {i : Nat → Int32} {a : Nat → Nat → Int32} {g : Nat → Nat} {a2 : Nat → Nat → Int32} {f : Nat → Int32} {D : va_G} {H : Heap} {A : Nat → Prop} (e : a2 = updA a 29 f) (hP : va_P D classes ((TW cI u o i a g).set 41 (u 39, .inl (cI, 700, .inl f))) H) (hD : va_D A ((TW cI u o i a g).set 41 (u 39, .inl (cI, 700, .inl f)))) : va_P D classes (TW cI u o i a2 g) H ∧ va_D A (TW cI u o i a2 g) := by
  subst e
  have h : (TW cI u o i a g).set 41 (u 39, .inl (cI, 700, .inl f)) = TW cI u o i (updA a 29 f) g := rfl
  rw [h] at hP hD
  exact ⟨hP, hD⟩
theorem xv_30 {cI : ClassId} {u o : Nat → Nat} {i : Nat → Int32} {a : Nat → Nat → Int32} {g : Nat → Nat} {a2 : Nat → Nat → Int32} {f : Nat → Int32} {D : va_G} {H : Heap} {A : Nat → Prop} (e : a2 = updA a 30 f) (hP : va_P D classes ((TW cI u o i a g).set 42 (u 40, .inl (cI, 700, .inl f))) H) (hD : va_D A ((TW cI u o i a g).set 42 (u 40, .inl (cI, 700, .inl f)))) : va_P D classes (TW cI u o i a2 g) H ∧ va_D A (TW cI u o i a2 g) := by
  subst e
  have h : (TW cI u o i a g).set 42 (u 40, .inl (cI, 700, .inl f)) = TW cI u o i (updA a 30 f) g := rfl
  rw [h] at hP hD
  exact ⟨hP, hD⟩
theorem xv_31 {cI : ClassId} {u o : Nat → Nat} {i : Nat → Int32} {a : Nat → Nat → Int32} {g : Nat → Nat} {a2 : Nat → Nat → Int32} {f : Nat → Int32} {D : va_G} {H : Heap} {A : Nat → Prop} (e : a2 = updA a 31 f) (hP : va_P D classes ((TW cI u o i a g).set 43 (u 41, .inl (cI, 4000, .inl f))) H) (hD : va_D A ((TW cI u o i a g).set 43 (u 41, .inl (cI, 4000, .inl f)))) : va_P D classes (TW cI u o i a2 g) H ∧ va_D A (TW cI u o i a2 g) := by
  subst e
  have h : (TW cI u o i a g).set 43 (u 41, .inl (cI, 4000, .inl f)) = TW cI u o i (updA a 31 f) g := rfl
  rw [h] at hP hD
  exact ⟨hP, hD⟩
theorem xv_32 {cI : ClassId} {u o : Nat → Nat} {i : Nat → Int32} {a : Nat → Nat → Int32} {g : Nat → Nat} {a2 : Nat → Nat → Int32} {f : Nat → Int32} {D : va_G} {H : Heap} {A : Nat → Prop} (e : a2 = updA a 32 f) (hP : va_P D classes ((TW cI u o i a g).set 44 (u 42, .inl (cI, 600, .inl f))) H) (hD : va_D A ((TW cI u o i a g).set 44 (u 42, .inl (cI, 600, .inl f)))) : va_P D classes (TW cI u o i a2 g) H ∧ va_D A (TW cI u o i a2 g) := by
  subst e
  have h : (TW cI u o i a g).set 44 (u 42, .inl (cI, 600, .inl f)) = TW cI u o i (updA a 32 f) g := rfl
  rw [h] at hP hD
  exact ⟨hP, hD⟩
theorem xv_33 {cI : ClassId} {u o : Nat → Nat} {i : Nat → Int32} {a : Nat → Nat → Int32} {g : Nat → Nat} {a2 : Nat → Nat → Int32} {f : Nat → Int32} {D : va_G} {H : Heap} {A : Nat → Prop} (e : a2 = updA a 33 f) (hP : va_P D classes ((TW cI u o i a g).set 45 (u 43, .inl (cI, 20, .inl f))) H) (hD : va_D A ((TW cI u o i a g).set 45 (u 43, .inl (cI, 20, .inl f)))) : va_P D classes (TW cI u o i a2 g) H ∧ va_D A (TW cI u o i a2 g) := by
  subst e
  have h : (TW cI u o i a g).set 45 (u 43, .inl (cI, 20, .inl f)) = TW cI u o i (updA a 33 f) g := rfl
  rw [h] at hP hD
  exact ⟨hP, hD⟩
theorem xv_34 {cI : ClassId} {u o : Nat → Nat} {i : Nat → Int32} {a : Nat → Nat → Int32} {g : Nat → Nat} {a2 : Nat → Nat → Int32} {f : Nat → Int32} {D : va_G} {H : Heap} {A : Nat → Prop} (e : a2 = updA a 34 f) (hP : va_P D classes ((TW cI u o i a g).set 46 (u 44, .inl (cI, 200, .inl f))) H) (hD : va_D A ((TW cI u o i a g).set 46 (u 44, .inl (cI, 200, .inl f)))) : va_P D classes (TW cI u o i a2 g) H ∧ va_D A (TW cI u o i a2 g) := by
  subst e
  have h : (TW cI u o i a g).set 46 (u 44, .inl (cI, 200, .inl f)) = TW cI u o i (updA a 34 f) g := rfl
  rw [h] at hP hD
  exact ⟨hP, hD⟩
theorem xv_35 {cI : ClassId} {u o : Nat → Nat} {i : Nat → Int32} {a : Nat → Nat → Int32} {g : Nat → Nat} {a2 : Nat → Nat → Int32} {f : Nat → Int32} {D : va_G} {H : Heap} {A : Nat → Prop} (e : a2 = updA a 35 f) (hP : va_P D classes ((TW cI u o i a g).set 47 (u 45, .inl (cI, 200, .inl f))) H) (hD : va_D A ((TW cI u o i a g).set 47 (u 45, .inl (cI, 200, .inl f)))) : va_P D classes (TW cI u o i a2 g) H ∧ va_D A (TW cI u o i a2 g) := by
  subst e
  have h : (TW cI u o i a g).set 47 (u 45, .inl (cI, 200, .inl f)) = TW cI u o i (updA a 35 f) g := rfl
  rw [h] at hP hD
  exact ⟨hP, hD⟩
theorem xv_36 {cI : ClassId} {u o : Nat → Nat} {i : Nat → Int32} {a : Nat → Nat → Int32} {g : Nat → Nat} {a2 : Nat → Nat → Int32} {f : Nat → Int32} {D : va_G} {H : Heap} {A : Nat → Prop} (e : a2 = updA a 36 f) (hP : va_P D classes ((TW cI u o i a g).set 48 (u 46, .inl (cI, 200, .inl f))) H) (hD : va_D A ((TW cI u o i a g).set 48 (u 46, .inl (cI, 200, .inl f)))) : va_P D classes (TW cI u o i a2 g) H ∧ va_D A (TW cI u o i a2 g) := by
  subst e
  have h : (TW cI u o i a g).set 48 (u 46, .inl (cI, 200, .inl f)) = TW cI u o i (updA a 36 f) g := rfl
  rw [h] at hP hD
  exact ⟨hP, hD⟩
theorem xv_37 {cI : ClassId} {u o : Nat → Nat} {i : Nat → Int32} {a : Nat → Nat → Int32} {g : Nat → Nat} {a2 : Nat → Nat → Int32} {f : Nat → Int32} {D : va_G} {H : Heap} {A : Nat → Prop} (e : a2 = updA a 37 f) (hP : va_P D classes ((TW cI u o i a g).set 49 (u 47, .inl (cI, 150, .inl f))) H) (hD : va_D A ((TW cI u o i a g).set 49 (u 47, .inl (cI, 150, .inl f)))) : va_P D classes (TW cI u o i a2 g) H ∧ va_D A (TW cI u o i a2 g) := by
  subst e
  have h : (TW cI u o i a g).set 49 (u 47, .inl (cI, 150, .inl f)) = TW cI u o i (updA a 37 f) g := rfl
  rw [h] at hP hD
  exact ⟨hP, hD⟩
theorem xv_38 {cI : ClassId} {u o : Nat → Nat} {i : Nat → Int32} {a : Nat → Nat → Int32} {g : Nat → Nat} {a2 : Nat → Nat → Int32} {f : Nat → Int32} {D : va_G} {H : Heap} {A : Nat → Prop} (e : a2 = updA a 38 f) (hP : va_P D classes ((TW cI u o i a g).set 50 (u 48, .inl (cI, 150, .inl f))) H) (hD : va_D A ((TW cI u o i a g).set 50 (u 48, .inl (cI, 150, .inl f)))) : va_P D classes (TW cI u o i a2 g) H ∧ va_D A (TW cI u o i a2 g) := by
  subst e
  have h : (TW cI u o i a g).set 50 (u 48, .inl (cI, 150, .inl f)) = TW cI u o i (updA a 38 f) g := rfl
  rw [h] at hP hD
  exact ⟨hP, hD⟩
theorem xv_39 {cI : ClassId} {u o : Nat → Nat} {i : Nat → Int32} {a : Nat → Nat → Int32} {g : Nat → Nat} {a2 : Nat → Nat → Int32} {f : Nat → Int32} {D : va_G} {H : Heap} {A : Nat → Prop} (e : a2 = updA a 39 f) (hP : va_P D classes ((TW cI u o i a g).set 51 (u 49, .inl (cI, 150, .inl f))) H) (hD : va_D A ((TW cI u o i a g).set 51 (u 49, .inl (cI, 150, .inl f)))) : va_P D classes (TW cI u o i a2 g) H ∧ va_D A (TW cI u o i a2 g) := by
  subst e
  have h : (TW cI u o i a g).set 51 (u 49, .inl (cI, 150, .inl f)) = TW cI u o i (updA a 39 f) g := rfl
  rw [h] at hP hD
  exact ⟨hP, hD⟩
theorem xv_40 {cI : ClassId} {u o : Nat → Nat} {i : Nat → Int32} {a : Nat → Nat → Int32} {g : Nat → Nat} {a2 : Nat → Nat → Int32} {f : Nat → Int32} {D : va_G} {H : Heap} {A : Nat → Prop} (e : a2 = updA a 40 f) (hP : va_P D classes ((TW cI u o i a g).set 52 (u 50, .inl (cI, 150, .inl f))) H) (hD : va_D A ((TW cI u o i a g).set 52 (u 50, .inl (cI, 150, .inl f)))) : va_P D classes (TW cI u o i a2 g) H ∧ va_D A (TW cI u o i a2 g) := by
  subst e
  have h : (TW cI u o i a g).set 52 (u 50, .inl (cI, 150, .inl f)) = TW cI u o i (updA a 40 f) g := rfl
  rw [h] at hP hD
  exact ⟨hP, hD⟩
theorem xv_41 {cI : ClassId} {u o : Nat → Nat} {i : Nat → Int32} {a : Nat → Nat → Int32} {g : Nat → Nat} {a2 : Nat → Nat → Int32} {f : Nat → Int32} {D : va_G} {H : Heap} {A : Nat → Prop} (e : a2 = updA a 41 f) (hP : va_P D classes ((TW cI u o i a g).set 53 (u 51, .inl (cI, 150, .inl f))) H) (hD : va_D A ((TW cI u o i a g).set 53 (u 51, .inl (cI, 150, .inl f)))) : va_P D classes (TW cI u o i a2 g) H ∧ va_D A (TW cI u o i a2 g) := by
  subst e
  have h : (TW cI u o i a g).set 53 (u 51, .inl (cI, 150, .inl f)) = TW cI u o i (updA a 41 f) g := rfl
  rw [h] at hP hD
  exact ⟨hP, hD⟩
theorem xv_42 {cI : ClassId} {u o : Nat → Nat} {i : Nat → Int32} {a : Nat → Nat → Int32} {g : Nat → Nat} {a2 : Nat → Nat → Int32} {f : Nat → Int32} {D : va_G} {H : Heap} {A : Nat → Prop} (e : a2 = updA a 42 f) (hP : va_P D classes ((TW cI u o i a g).set 54 (u 52, .inl (cI, 150, .inl f))) H) (hD : va_D A ((TW cI u o i a g).set 54 (u 52, .inl (cI, 150, .inl f)))) : va_P D classes (TW cI u o i a2 g) H ∧ va_D A (TW cI u o i a2 g) := by
  subst e
  have h : (TW cI u o i a g).set 54 (u 52, .inl (cI, 150, .inl f)) = TW cI u o i (updA a 42 f) g := rfl
  rw [h] at hP hD
  exact ⟨hP, hD⟩
theorem xv_43 {cI : ClassId} {u o : Nat → Nat} {i : Nat → Int32} {a : Nat → Nat → Int32} {g : Nat → Nat} {a2 : Nat → Nat → Int32} {f : Nat → Int32} {D : va_G} {H : Heap} {A : Nat → Prop} (e : a2 = updA a 43 f) (hP : va_P D classes ((TW cI u o i a g).set 55 (u 53, .inl (cI, 150, .inl f))) H) (hD : va_D A ((TW cI u o i a g).set 55 (u 53, .inl (cI, 150, .inl f)))) : va_P D classes (TW cI u o i a2 g) H ∧ va_D A (TW cI u o i a2 g) := by
  subst e
  have h : (TW cI u o i a g).set 55 (u 53, .inl (cI, 150, .inl f)) = TW cI u o i (updA a 43 f) g := rfl
  rw [h] at hP hD
  exact ⟨hP, hD⟩
theorem xv_44 {cI : ClassId} {u o : Nat → Nat} {i : Nat → Int32} {a : Nat → Nat → Int32} {g : Nat → Nat} {a2 : Nat → Nat → Int32} {f : Nat → Int32} {D : va_G} {H : Heap} {A : Nat → Prop} (e : a2 = updA a 44 f) (hP : va_P D classes ((TW cI u o i a g).set 56 (u 54, .inl (cI, 150, .inl f))) H) (hD : va_D A ((TW cI u o i a g).set 56 (u 54, .inl (cI, 150, .inl f)))) : va_P D classes (TW cI u o i a2 g) H ∧ va_D A (TW cI u o i a2 g) := by
  subst e
  have h : (TW cI u o i a g).set 56 (u 54, .inl (cI, 150, .inl f)) = TW cI u o i (updA a 44 f) g := rfl
  rw [h] at hP hD
  exact ⟨hP, hD⟩
theorem xv_45 {cI : ClassId} {u o : Nat → Nat} {i : Nat → Int32} {a : Nat → Nat → Int32} {g : Nat → Nat} {a2 : Nat → Nat → Int32} {f : Nat → Int32} {D : va_G} {H : Heap} {A : Nat → Prop} (e : a2 = updA a 45 f) (hP : va_P D classes ((TW cI u o i a g).set 57 (u 55, .inl (cI, 150, .inl f))) H) (hD : va_D A ((TW cI u o i a g).set 57 (u 55, .inl (cI, 150, .inl f)))) : va_P D classes (TW cI u o i a2 g) H ∧ va_D A (TW cI u o i a2 g) := by
  subst e
  have h : (TW cI u o i a g).set 57 (u 55, .inl (cI, 150, .inl f)) = TW cI u o i (updA a 45 f) g := rfl
  rw [h] at hP hD
  exact ⟨hP, hD⟩
theorem xv_46 {cI : ClassId} {u o : Nat → Nat} {i : Nat → Int32} {a : Nat → Nat → Int32} {g : Nat → Nat} {a2 : Nat → Nat → Int32} {f : Nat → Int32} {D : va_G} {H : Heap} {A : Nat → Prop} (e : a2 = updA a 46 f) (hP : va_P D classes ((TW cI u o i a g).set 58 (u 56, .inl (cI, 150, .inl f))) H) (hD : va_D A ((TW cI u o i a g).set 58 (u 56, .inl (cI, 150, .inl f)))) : va_P D classes (TW cI u o i a2 g) H ∧ va_D A (TW cI u o i a2 g) := by
  subst e
  have h : (TW cI u o i a g).set 58 (u 56, .inl (cI, 150, .inl f)) = TW cI u o i (updA a 46 f) g := rfl
  rw [h] at hP hD
  exact ⟨hP, hD⟩
theorem xv_47 {cI : ClassId} {u o : Nat → Nat} {i : Nat → Int32} {a : Nat → Nat → Int32} {g : Nat → Nat} {a2 : Nat → Nat → Int32} {f : Nat → Int32} {D : va_G} {H : Heap} {A : Nat → Prop} (e : a2 = updA a 47 f) (hP : va_P D classes ((TW cI u o i a g).set 59 (u 57, .inl (cI, 401, .inl f))) H) (hD : va_D A ((TW cI u o i a g).set 59 (u 57, .inl (cI, 401, .inl f)))) : va_P D classes (TW cI u o i a2 g) H ∧ va_D A (TW cI u o i a2 g) := by
  subst e
  have h : (TW cI u o i a g).set 59 (u 57, .inl (cI, 401, .inl f)) = TW cI u o i (updA a 47 f) g := rfl
  rw [h] at hP hD
  exact ⟨hP, hD⟩
theorem xv_48 {cI : ClassId} {u o : Nat → Nat} {i : Nat → Int32} {a : Nat → Nat → Int32} {g : Nat → Nat} {a2 : Nat → Nat → Int32} {f : Nat → Int32} {D : va_G} {H : Heap} {A : Nat → Prop} (e : a2 = updA a 48 f) (hP : va_P D classes ((TW cI u o i a g).set 60 (u 58, .inl (cI, 401, .inl f))) H) (hD : va_D A ((TW cI u o i a g).set 60 (u 58, .inl (cI, 401, .inl f)))) : va_P D classes (TW cI u o i a2 g) H ∧ va_D A (TW cI u o i a2 g) := by
  subst e
  have h : (TW cI u o i a g).set 60 (u 58, .inl (cI, 401, .inl f)) = TW cI u o i (updA a 48 f) g := rfl
  rw [h] at hP hD
  exact ⟨hP, hD⟩
theorem xv_49 {cI : ClassId} {u o : Nat → Nat} {i : Nat → Int32} {a : Nat → Nat → Int32} {g : Nat → Nat} {a2 : Nat → Nat → Int32} {f : Nat → Int32} {D : va_G} {H : Heap} {A : Nat → Prop} (e : a2 = updA a 49 f) (hP : va_P D classes ((TW cI u o i a g).set 61 (u 59, .inl (cI, 401, .inl f))) H) (hD : va_D A ((TW cI u o i a g).set 61 (u 59, .inl (cI, 401, .inl f)))) : va_P D classes (TW cI u o i a2 g) H ∧ va_D A (TW cI u o i a2 g) := by
  subst e
  have h : (TW cI u o i a g).set 61 (u 59, .inl (cI, 401, .inl f)) = TW cI u o i (updA a 49 f) g := rfl
  rw [h] at hP hD
  exact ⟨hP, hD⟩
theorem xv_50 {cI : ClassId} {u o : Nat → Nat} {i : Nat → Int32} {a : Nat → Nat → Int32} {g : Nat → Nat} {a2 : Nat → Nat → Int32} {f : Nat → Int32} {D : va_G} {H : Heap} {A : Nat → Prop} (e : a2 = updA a 50 f) (hP : va_P D classes ((TW cI u o i a g).set 62 (u 60, .inl (cI, 401, .inl f))) H) (hD : va_D A ((TW cI u o i a g).set 62 (u 60, .inl (cI, 401, .inl f)))) : va_P D classes (TW cI u o i a2 g) H ∧ va_D A (TW cI u o i a2 g) := by
  subst e
  have h : (TW cI u o i a g).set 62 (u 60, .inl (cI, 401, .inl f)) = TW cI u o i (updA a 50 f) g := rfl
  rw [h] at hP hD
  exact ⟨hP, hD⟩
theorem xv_51 {cI : ClassId} {u o : Nat → Nat} {i : Nat → Int32} {a : Nat → Nat → Int32} {g : Nat → Nat} {a2 : Nat → Nat → Int32} {f : Nat → Int32} {D : va_G} {H : Heap} {A : Nat → Prop} (e : a2 = updA a 51 f) (hP : va_P D classes ((TW cI u o i a g).set 63 (u 61, .inl (cI, 401, .inl f))) H) (hD : va_D A ((TW cI u o i a g).set 63 (u 61, .inl (cI, 401, .inl f)))) : va_P D classes (TW cI u o i a2 g) H ∧ va_D A (TW cI u o i a2 g) := by
  subst e
  have h : (TW cI u o i a g).set 63 (u 61, .inl (cI, 401, .inl f)) = TW cI u o i (updA a 51 f) g := rfl
  rw [h] at hP hD
  exact ⟨hP, hD⟩
theorem xv_52 {cI : ClassId} {u o : Nat → Nat} {i : Nat → Int32} {a : Nat → Nat → Int32} {g : Nat → Nat} {a2 : Nat → Nat → Int32} {f : Nat → Int32} {D : va_G} {H : Heap} {A : Nat → Prop} (e : a2 = updA a 52 f) (hP : va_P D classes ((TW cI u o i a g).set 64 (u 62, .inl (cI, 401, .inl f))) H) (hD : va_D A ((TW cI u o i a g).set 64 (u 62, .inl (cI, 401, .inl f)))) : va_P D classes (TW cI u o i a2 g) H ∧ va_D A (TW cI u o i a2 g) := by
  subst e
  have h : (TW cI u o i a g).set 64 (u 62, .inl (cI, 401, .inl f)) = TW cI u o i (updA a 52 f) g := rfl
  rw [h] at hP hD
  exact ⟨hP, hD⟩
theorem xv_53 {cI : ClassId} {u o : Nat → Nat} {i : Nat → Int32} {a : Nat → Nat → Int32} {g : Nat → Nat} {a2 : Nat → Nat → Int32} {f : Nat → Int32} {D : va_G} {H : Heap} {A : Nat → Prop} (e : a2 = updA a 53 f) (hP : va_P D classes ((TW cI u o i a g).set 65 (u 63, .inl (cI, 401, .inl f))) H) (hD : va_D A ((TW cI u o i a g).set 65 (u 63, .inl (cI, 401, .inl f)))) : va_P D classes (TW cI u o i a2 g) H ∧ va_D A (TW cI u o i a2 g) := by
  subst e
  have h : (TW cI u o i a g).set 65 (u 63, .inl (cI, 401, .inl f)) = TW cI u o i (updA a 53 f) g := rfl
  rw [h] at hP hD
  exact ⟨hP, hD⟩
theorem xv_54 {cI : ClassId} {u o : Nat → Nat} {i : Nat → Int32} {a : Nat → Nat → Int32} {g : Nat → Nat} {a2 : Nat → Nat → Int32} {f : Nat → Int32} {D : va_G} {H : Heap} {A : Nat → Prop} (e : a2 = updA a 54 f) (hP : va_P D classes ((TW cI u o i a g).set 66 (u 64, .inl (cI, 32000, .inl f))) H) (hD : va_D A ((TW cI u o i a g).set 66 (u 64, .inl (cI, 32000, .inl f)))) : va_P D classes (TW cI u o i a2 g) H ∧ va_D A (TW cI u o i a2 g) := by
  subst e
  have h : (TW cI u o i a g).set 66 (u 64, .inl (cI, 32000, .inl f)) = TW cI u o i (updA a 54 f) g := rfl
  rw [h] at hP hD
  exact ⟨hP, hD⟩
abbrev xN (sz : Nat) : Nat → Prop := va_A ([] : va_W) sz
abbrev xE (dC : Nat → ClassId) (dI : Nat → Nat → Nat) (cI : ClassId) (adK adV adA u o g : Nat → Nat) (i : Nat → Int32) (a : Nat → Nat → Int32) (sz : Nat) : State → Prop := fun U => U.heap.size = sz ∧ va_P (dC, dI) classes (TW cI u o i a g) U.heap ∧ va_K (dC, dI) classes [(cI, .int)] U ∧ tw_E adK adV adA (va_A (TW cI u o i a g) sz) U U.heap ∧ va_D (fun _ => True) (TW cI u o i a g)
abbrev xEr (dC : Nat → ClassId) (dI : Nat → Nat → Nat) (cI : ClassId) (adK adV adA u o g : Nat → Nat) (i : Nat → Int32) (a : Nat → Nat → Int32) (sz : Nat) : State → Prop := fun U => U.heap.size = sz ∧ va_P (dC, dI) classes (TW cI u o i a g) U.heap ∧ va_K (dC, dI) classes [(cI, .int)] U ∧ tw_E adK adV adA (xN sz) U U.heap
abbrev xE0 (sz : Nat) : State → Prop := fun U => U.heap.size = sz
abbrev xB (dC : Nat → ClassId) (dI : Nat → Nat → Nat) (cI : ClassId) (u o g : Nat → Nat) (i : Nat → Int32) (a : Nat → Nat → Int32) (A : Nat → Prop) : Unit → State → Prop := fun _ t => va_P (dC, dI) classes (TW cI u o i a g) t.heap ∧ va_D A (TW cI u o i a g)
abbrev xT : Unit → State → Prop := fun _ _ => True
abbrev xR {α : Type} (r2 : α) : α → Unit → Prop := fun r _ => r2 = r
abbrev xV : Unit → Prop := fun _ => True
theorem x_free {A : Nat → Prop} {ws : va_W} {H0 H : Heap} {locs : List Loc} (hD : va_D A ws) (hS : va_S A H0 H locs) (hA : ∀ q : Nat, H0.size ≤ q → A q) : ∀ q, va_A ws H.size q → A q := by
  intro q h
  rcases h with ⟨k, e, h⟩ | h
  · exact hD.2 k (q, e) h
  · exact hA q (Nat.le_trans hS.1 h)
theorem x_free0 {A : Nat → Prop} {H0 H : Heap} {locs : List Loc} (hS : va_S A H0 H locs) (hA : ∀ q : Nat, H0.size ≤ q → A q) : ∀ q, xN H.size q → A q := by
  intro q h
  rcases h with ⟨k, e, h⟩ | h
  · simp at h
  · exact hA q (Nat.le_trans hS.1 h)
theorem x_nA {sz q : Nat} (h : q < sz) : ¬ xN sz q := by
  intro h9
  rcases h9 with ⟨k, e, h9⟩ | h9
  · simp at h9
  · omega
theorem x_keep {D : va_G} {cl : List vw_C} {ws : va_W} {H H1 : Heap} (hP : va_P D cl ws H) (hk : ∀ q : Nat, q < H.size → ¬ xN H.size q → H1[q]? = H[q]?) : va_P D cl ws H1 := hP.kept (fun k q h => hk q.1 (hP k q h).lt (x_nA (hP k q h).lt))
theorem x_one {D : va_G} {cl : List vw_C} {ws : va_W} {A : Nat → Prop} {H H1 : Heap} {p ad : Nat} {e0 e1 : va_E} (hP : va_P D cl ws H) (hD : va_D A ws) (hp : ws[p]? = some (ad, e0)) (hk : ∀ q : Nat, q < H.size → ¬ va_A [(ad, e0)] H.size q → H1[q]? = H[q]?) (h1 : va_P D cl [(ad, e1)] H1) : va_P D cl (ws.set p (ad, e1)) H1 := by
  have hlt : p < ws.length := by
    rcases Nat.lt_or_ge p ws.length with h | h
    · exact h
    · rw [List.getElem?_eq_none h] at hp; cases hp
  intro k q hkq
  rcases Classical.em (p = k) with h | h
  · subst h
    rw [List.getElem?_set_self hlt] at hkq
    cases hkq
    exact h1 0 _ rfl
  · rw [List.getElem?_set_ne h] at hkq
    have h2 := hP k q hkq
    refine h2.kept (hk q.1 h2.lt ?_)
    intro h9
    rcases h9 with ⟨j, e, h9⟩ | h9
    · have h8 : q.1 = ad := by
        match j, h9 with
        | 0, h9 => cases h9; rfl
        | j + 1, h9 => simp at h9
      exact h (hD.1 p k _ _ hp hkq h8.symm)
    · exact absurd h2.lt (by omega)
theorem x_aft {A A1 : Nat → Prop} {dC : Nat → ClassId} {dI : Nat → Nat → Nat} {cI : ClassId} {u o g : Nat → Nat} {i : Nat → Int32} {a : Nat → Nat → Int32} {t : State} {H : Heap} {x : Unit} (hB : xB dC dI cI u o g i a A1 x t) (ht : t.heap = H) (hF : ∀ q, A1 q → A q) : va_P (dC, dI) classes (TW cI u o i a g) H ∧ va_D A (TW cI u o i a g) := by
  subst ht
  exact ⟨hB.1, hB.2.weaken (fun _ _ _ h => hF _ h)⟩
theorem x_eq {A : Nat → Prop} {D : va_G} {cI : ClassId} {u o g : Nat → Nat} {i i2 : Nat → Int32} {a a2 : Nat → Nat → Int32} {H : Heap} (e1 : i = i2) (e2 : a = a2) (hP : va_P D classes (TW cI u o i a g) H) (hD : va_D A (TW cI u o i a g)) : va_P D classes (TW cI u o i2 a2 g) H ∧ va_D A (TW cI u o i2 a2 g) := by
  subst e1; subst e2
  exact ⟨hP, hD⟩
theorem xpV {A : Nat → Prop} {dC : Nat → ClassId} {dI : Nat → Nat → Nat} {cI : ClassId} {adK adV adA u o g : Nat → Nat} {i : Nat → Int32} {a : Nat → Nat → Int32} {s : State} {H : Heap} {locs : List Loc} {As : List Value} {C : String} {T : u_T} {N b ci : Nat} {fs : List Value} (hK : va_K (dC, dI) classes [(cI, .int)] s) (hP : va_P (dC, dI) classes (TW cI u o i a g) H) (hD : va_D A (TW cI u o i a g)) (hS : va_S A s.heap H locs) (hE : tw_E adK adV adA A s s.heap) (hF : ∀ q, va_A (TW cI u o i a g) H.size q → A q) (he : (TW cI u o i a g)[ci]? = some (b, .inr (ci, fs))) (hc : classes[ci]? = some (C, T, N)) : PreV s H C b (va_Pc (.ref b :: As) (xE dC dI cI adK adV adA u o g i a H.size)) As :=
  ⟨fun x U gg mk z => by obtain ⟨q0, q1, qP, qK, qE, qD⟩ := z; exact ⟨q0, q1, qP, va_K.moved (u := U) (U := U.calling gg mk x) (Vm.Alike.refl U.vm) qK, qE.blind, qD⟩, va_recv hK hP hc he, fun U hU hW => ⟨rfl, by rw [hU], by rw [hU]; exact hP, va_K.moved hW.alike hK, tw_E.pass hE hS hF hW hU, hD.weaken (fun _ _ _ _ => trivial)⟩⟩
theorem xpVr {A : Nat → Prop} {dC : Nat → ClassId} {dI : Nat → Nat → Nat} {cI : ClassId} {adK adV adA u o g : Nat → Nat} {i : Nat → Int32} {a : Nat → Nat → Int32} {s : State} {H : Heap} {locs : List Loc} {As : List Value} {C : String} {T : u_T} {N b ci : Nat} {fs : List Value} (hK : va_K (dC, dI) classes [(cI, .int)] s) (hP : va_P (dC, dI) classes (TW cI u o i a g) H) (hS : va_S A s.heap H locs) (hE : tw_E adK adV adA A s s.heap) (hF : ∀ q, xN H.size q → A q) (he : (TW cI u o i a g)[ci]? = some (b, .inr (ci, fs))) (hc : classes[ci]? = some (C, T, N)) : PreV s H C b (va_Pc (.ref b :: As) (xEr dC dI cI adK adV adA u o g i a H.size)) As :=
  ⟨fun x U gg mk z => by obtain ⟨q0, q1, qP, qK, qE⟩ := z; exact ⟨q0, q1, qP, va_K.moved (u := U) (U := U.calling gg mk x) (Vm.Alike.refl U.vm) qK, qE.blind⟩, va_recv hK hP hc he, fun U hU hW => ⟨rfl, by rw [hU], by rw [hU]; exact hP, va_K.moved hW.alike hK, tw_E.pass hE hS hF hW hU⟩⟩
theorem xpSr {A : Nat → Prop} {dC : Nat → ClassId} {dI : Nat → Nat → Nat} {cI : ClassId} {adK adV adA u o g : Nat → Nat} {i : Nat → Int32} {a : Nat → Nat → Int32} {s : State} {H : Heap} {locs : List Loc} {As : List Value} (hK : va_K (dC, dI) classes [(cI, .int)] s) (hP : va_P (dC, dI) classes (TW cI u o i a g) H) (hS : va_S A s.heap H locs) (hE : tw_E adK adV adA A s s.heap) (hF : ∀ q, xN H.size q → A q) : PreS s H (va_Pc As (xEr dC dI cI adK adV adA u o g i a H.size)) As :=
  ⟨fun x U gg mk z => by obtain ⟨q0, q1, qP, qK, qE⟩ := z; exact ⟨q0, q1, qP, va_K.moved (u := U) (U := U.calling gg mk x) (Vm.Alike.refl U.vm) qK, qE.blind⟩, fun U hU hW => ⟨rfl, by rw [hU], by rw [hU]; exact hP, va_K.moved hW.alike hK, tw_E.pass hE hS hF hW hU⟩⟩
def updN (f : Nat → Nat) (k x : Nat) : Nat → Nat := fun j => if j = k then x else f j
def sw {α : Type} (f : Nat → α) : Nat → α := fun j => if j = 0 then f 1 else if j = 1 then f 0 else f j
def obG {α β γ δ ε : Type} (x : Option (α × β × γ × (Nat × Nat) × ε)) (f : α → β → γ → ε → Option (α × β × γ × (Nat × Nat) × δ)) : Option (α × β × γ × (Nat × Nat) × δ) := match x with
  | none => none
  | some y => match f y.1 y.2.1 y.2.2.1 y.2.2.2.2 with
    | none => none
    | some z => some (z.1, z.2.1, z.2.2.1, (y.2.2.2.1.1 + z.2.2.2.1.1, y.2.2.2.1.2 + z.2.2.2.1.2), z.2.2.2.2)
theorem obG_some {α β γ δ ε : Type} {x : Option (α × β × γ × (Nat × Nat) × ε)} {f : α → β → γ → ε → Option (α × β × γ × (Nat × Nat) × δ)} {i2 : α} {a2 : β} {g2 : γ} {k2 : Nat × Nat} {r2 : δ} (h : obG x f = some (i2, a2, g2, k2, r2)) : ∃ i a g k r k3, x = some (i, a, g, k, r) ∧ f i a g r = some (i2, a2, g2, k3, r2) ∧ k2.1 = k.1 + k3.1 ∧ k2.2 = k.2 + k3.2 := by
  match x, h with
  | none, h => cases h
  | some (i, a, g, k, r), h =>
    match hf : f i a g r, h with
    | none, h => simp [obG, hf] at h
    | some (i3, a3, g3, k3, r3), h =>
      simp only [obG, hf, Option.some.injEq, Prod.mk.injEq] at h
      obtain ⟨rfl, rfl, rfl, rfl, rfl⟩ := h
      exact ⟨i, a, g, k, r, k3, rfl, hf, rfl, rfl⟩
def gw {α β γ δ : Type} (c m : Nat) (x : Option (α × β × γ × (Nat × Nat) × δ)) : Option (α × β × γ × (Nat × Nat) × δ) := match x with
  | none => none
  | some z => some (z.1, z.2.1, z.2.2.1, (c + z.2.2.2.1.1, m + z.2.2.2.1.2), z.2.2.2.2)
theorem gw_some {α β γ δ : Type} {c m : Nat} {x : Option (α × β × γ × (Nat × Nat) × δ)} {i2 : α} {a2 : β} {g2 : γ} {k2 : Nat × Nat} {r2 : δ} (h : gw c m x = some (i2, a2, g2, k2, r2)) : ∃ k3, x = some (i2, a2, g2, k3, r2) ∧ k2.1 = c + k3.1 ∧ k2.2 = m + k3.2 := by
  match x, h with
  | none, h => cases h
  | some (i3, a3, g3, k3, r3), h =>
    simp only [gw, Option.some.injEq, Prod.mk.injEq] at h
    obtain ⟨rfl, rfl, rfl, rfl, rfl⟩ := h
    exact ⟨k3, rfl, rfl, rfl⟩
theorem re5 {α β γ δ : Type} {x x2 : α} {y y2 : β} {z z2 : γ} {k2 : Nat × Nat} {r r2 : δ} (h : some (x, y, z, ((0, 0) : Nat × Nat), r) = some (x2, y2, z2, k2, r2)) : x = x2 ∧ y = y2 ∧ z = z2 ∧ k2.1 = 0 ∧ k2.2 = 0 ∧ r = r2 := by
  cases h; exact ⟨rfl, rfl, rfl, rfl, rfl, rfl⟩
def cg {δ : Type} (v r : Int32) (n0 : Nat) (k : Option δ) : Option δ := if v = nI n0 ∨ v < 0 ∨ 536870912 < v.toNatClampNeg * componentBytes .int ∨ r < 0 ∨ n0 < r.toNatClampNeg ∨ v.toNatClampNeg < r.toNatClampNeg then none else k
theorem cg_some {δ : Type} {v r : Int32} {n0 : Nat} {k : Option δ} {z : δ} (h : cg v r n0 k = some z) : ¬ v = nI n0 ∧ ¬ v < 0 ∧ v.toNatClampNeg * componentBytes .int ≤ 536870912 ∧ ¬ r < 0 ∧ r.toNatClampNeg ≤ n0 ∧ r.toNatClampNeg ≤ v.toNatClampNeg ∧ k = some z := by
  unfold cg at h
  rcases Classical.em (v = nI n0 ∨ v < 0 ∨ 536870912 < v.toNatClampNeg * componentBytes .int ∨ r < 0 ∨ n0 < r.toNatClampNeg ∨ v.toNatClampNeg < r.toNatClampNeg) with c | c
  · rw [if_pos c] at h; cases h
  · rw [if_neg c] at h
    exact ⟨fun q => c (Or.inl q), fun q => c (Or.inr (Or.inl q)), Nat.not_lt.mp (fun q => c (Or.inr (Or.inr (Or.inl q)))), fun q => c (Or.inr (Or.inr (Or.inr (Or.inl q)))), Nat.not_lt.mp (fun q => c (Or.inr (Or.inr (Or.inr (Or.inr (Or.inl q)))))), Nat.not_lt.mp (fun q => c (Or.inr (Or.inr (Or.inr (Or.inr (Or.inr q)))))), h⟩
abbrev xBg (dC : Nat → ClassId) (dI : Nat → Nat → Nat) (cI : ClassId) (u g : Nat → Nat) (i : Nat → Int32) (a : Nat → Nat → Int32) (A : Nat → Prop) : (Nat → Nat) → State → Prop := fun o t => va_P (dC, dI) classes (TW cI u o i a g) t.heap ∧ va_D A (TW cI u o i a g)
abbrev xRg {α : Type} (r2 : α) : α → (Nat → Nat) → Prop := fun r _ => r2 = r
abbrev xVg : (Nat → Nat) → Prop := fun _ => True
theorem x_aftg {A A1 : Nat → Prop} {dC : Nat → ClassId} {dI : Nat → Nat → Nat} {cI : ClassId} {u o g : Nat → Nat} {i : Nat → Int32} {a : Nat → Nat → Int32} {t : State} {H : Heap} (hB : xBg dC dI cI u g i a A1 o t) (ht : t.heap = H) (hF : ∀ q, A1 q → A q) : va_P (dC, dI) classes (TW cI u o i a g) H ∧ va_D A (TW cI u o i a g) := by
  subst ht
  exact ⟨hB.1, hB.2.weaken (fun _ _ _ h => hF _ h)⟩
theorem x_eqg {A : Nat → Prop} {D : va_G} {cI : ClassId} {u o g g2 : Nat → Nat} {i i2 : Nat → Int32} {a a2 : Nat → Nat → Int32} {H : Heap} (e1 : i = i2) (e2 : a = a2) (e4 : g = g2) (hP : va_P D classes (TW cI u o i a g) H) (hD : va_D A (TW cI u o i a g)) : va_P D classes (TW cI u o i2 a2 g2) H ∧ va_D A (TW cI u o i2 a2 g2) := by
  subst e1; subst e2; subst e4
  exact ⟨hP, hD⟩
theorem xg_calli {p : Program} {l : Launch} {e : Env} {R : Room} {s : State} {m : MethodId} {args : Array Value} {below : List Frame} {meth : Method} {c : Code} {H : Heap} {locs : List Loc} {cells slots : Nat} {Q : State → Prop} {pc : Nat} {ls : Array Slot} {rest st0 : List Value} {a : Array Value} {A0 A1 : Nat → Prop} {H0 : Heap} {mc ms : Nat} {free : Addr → Prop} {S : Type} {post : Int32 → S → Prop} {B : S → State → Prop} (hr : va_Run p l e R s m args below meth c H locs cells slots mc ms (F0 m pc ls st0) rest (va_Qi post B A1 a) free) (hS : va_S A0 H0 H locs) (hA : ∀ q, q < H.size → A1 q → A0 q) (hf : ∀ q, free q → A0 q) (kk : ∀ (kc ks : Nat) (r : Int32) (u : S) (t : State) (H1 : Heap) (locs1 : List Loc), kc = cells + mc → ks = slots + ms → t.heap = H1 → s.vm.Alike t.vm → post r u → B u t → H.size ≤ H1.size → (∀ q : Nat, q < H.size → ¬ A1 q → H1[q]? = H[q]?) → va_S A0 H0 H1 locs1 → W p l e R s m args below meth c H1 locs1 kc ks Q (F0 m (pc + 3) ls (.int r :: rest))) : W p l e R s m args below meth c H locs cells slots Q (F0 m pc ls st0) :=
  va_calli hr hS hA hf (fun r u t H1 locs1 h1 h2 h3 h4 h5 h6 h7 => kk _ _ r u t H1 locs1 rfl rfl h1 h2 h3 h4 h5 h6 h7)
theorem xg_callv {p : Program} {l : Launch} {e : Env} {R : Room} {s : State} {m : MethodId} {args : Array Value} {below : List Frame} {meth : Method} {c : Code} {H : Heap} {locs : List Loc} {cells slots : Nat} {Q : State → Prop} {pc : Nat} {ls : Array Slot} {rest st0 : List Value} {a : Array Value} {A0 A1 : Nat → Prop} {H0 : Heap} {mc ms : Nat} {free : Addr → Prop} {S : Type} {post : S → Prop} {B : S → State → Prop} (hr : va_Run p l e R s m args below meth c H locs cells slots mc ms (F0 m pc ls st0) rest (va_Qv post B A1 a) free) (hS : va_S A0 H0 H locs) (hA : ∀ q, q < H.size → A1 q → A0 q) (hf : ∀ q, free q → A0 q) (kk : ∀ (kc ks : Nat) (u : S) (t : State) (H1 : Heap) (locs1 : List Loc), kc = cells + mc → ks = slots + ms → t.heap = H1 → s.vm.Alike t.vm → post u → B u t → H.size ≤ H1.size → (∀ q : Nat, q < H.size → ¬ A1 q → H1[q]? = H[q]?) → va_S A0 H0 H1 locs1 → W p l e R s m args below meth c H1 locs1 kc ks Q (F0 m (pc + 3) ls (rest))) : W p l e R s m args below meth c H locs cells slots Q (F0 m pc ls st0) :=
  va_callv hr hS hA hf (fun u t H1 locs1 h1 h2 h3 h4 h5 h6 h7 => kk _ _ u t H1 locs1 rfl rfl h1 h2 h3 h4 h5 h6 h7)
theorem xpS0 {s : State} {H : Heap} {As : List Value} : PreS s H (va_Pc As (xE0 H.size)) As :=
  ⟨fun x U gg mk z => z, fun U hU hW => ⟨rfl, by show U.heap.size = H.size; rw [hU]⟩⟩
set_option maxHeartbeats 4000000 in
set_option maxRecDepth 100000 in
/-- a copy of another length -/
theorem c_Arrays_copyOf (l : Launch) (dC : Nat → ClassId) (dI : Nat → Nat → Nat) (sz : Nat) (h0 : Nat) (cI : ClassId) (n0 : Nat) (f : Nat → Int32) (v : Int32) (hvn : ¬ v = nI n0) (hva : ¬ v < 0) (hvb : v.toNatClampNeg * componentBytes .int ≤ 536870912) (hvc : ¬ (m_Math_min_r (nI n0) v) < 0) (hvd : (m_Math_min_r (nI n0) v).toNatClampNeg ≤ n0) (hve : (m_Math_min_r (nI n0) v).toNatClampNeg ≤ v.toNatClampNeg) : Met l y_Arrays_copyOf w_Arrays_copyOf ({ frames := 1, cells := 1, slots := v.toNatClampNeg, locals := 40 }) (va_Pc [.ref h0, .int v] (fun U => U.heap.size = sz ∧ va_P (dC, dI) classes [(h0, .inl (cI, n0, .inl f))] U.heap ∧ va_K (dC, dI) classes [(cI, .int)] U ∧ va_D (fun _ => True) [(h0, .inl (cI, n0, .inl f))])) (va_Qr (fun (_ : Unit) => True) (fun (_ : Unit) (a9 : Nat) t => va_P (dC, dI) classes [(h0, .inl (cI, n0, .inl f)), (a9, .inl (cI, v.toNatClampNeg, .inl (va_cpy f (fun _ => 0) 0 0 (m_Math_min_r (nI n0) v).toNatClampNeg)))] t.heap ∧ va_K (dC, dI) classes [(cI, .int)] t ∧ va_D (va_A [(h0, .inl (cI, n0, .inl f))] sz) [(h0, .inl (cI, n0, .inl f)), (a9, .inl (cI, v.toNatClampNeg, .inl (va_cpy f (fun _ => 0) 0 0 (m_Math_min_r (nI n0) v).toNatClampNeg)))]) (va_A [(h0, .inl (cI, n0, .inl f))] sz)) 1 v.toNatClampNeg (va_A [(h0, .inl (cI, n0, .inl f))] sz) := by
  refine Met.ofW (cc := b_Arrays_copyOf) (maxL := 3) (ret := (some (.array .int))) (by decide) rfl ?_
  intro p e s m args below meth c s₁ B hml hv
  obtain ⟨rfl, hsz, hP, hK, hD0⟩ := hv
  have hx := B.exec
  have hb := B.bytes
  have hr := B.returns
  have hts := atoms_spec (ws := w_Arrays_copyOf) B.pre
  have htt : ∀ w ∈ tw_T, w.before _ s = true := fun w h => hts w (List.mem_cons_of_mem _ h)
  have hown : s.vm.findClass R_Arrays = some m.cls := findClass_of_methodNamed B.named
  have hlocks := B.notSynchronized
  subst hsz
  have hD := hD0.self (sz := s.heap.size)
  generalize hAe : va_A [(h0, .inl (cI, n0, .inl f))] s.heap.size = A at hD ⊢
  have hA : ∀ q : Nat, s.heap.size ≤ q → A q := fun q h => by rw [← hAe]; exact Or.inr h
  have hS : va_S A s.heap s.heap [] := va_S.rf
  have hP : va_P (dC, dI) classes [(h0, .inl (cI, n0, .inl f))] s.heap := hP
  have hl := lv_entry ([.ref h0, .int v]) (n := 3) (Nat.le_of_ble_eq_true rfl)
  rw [lg_entry_eq]
  generalize (lg_sl ([.ref h0, .int v]) ++ List.replicate (3 - (lg_sl ([.ref h0, .int v])).length) Slot.unset).toArray = ls at hl ⊢
  have hl : lv_has ls 3 [(0, .ref h0), (1, .int v)] := hl
  refine lv_iload_n hx hb d_Arrays_copyOf_0 rfl (lv_at hl 1 rfl) ?_
  refine lv_aload_n hx hb d_Arrays_copyOf_1 rfl (lv_at hl 0 rfl) ?_
  refine va_alen (v := nI n0) hx hb hK hP 0 0 rfl rfl rfl d_Arrays_copyOf_2 ?_
  refine lv_icmp_ne (tgt := 14) hx hb d_Arrays_copyOf_3 (by decide) (fun c_1 => ?_) (fun c_1 => ?_)
  · refine lv_iload_n hx hb d_Arrays_copyOf_14 rfl (lv_at hl 1 rfl) ?_
    refine va_newa (atype := .int) (ty := .int) (a0 := (v.toNatClampNeg, .inl (fun _ => 0))) (N' := v.toNatClampNeg) hx hb (htt _ ac_int) rfl hK hP hD hS hA (fun _ => rfl) hva rfl hvb (Nat.le_of_ble_eq_true rfl) (Nat.le_of_eq (Nat.zero_add _)) d_Arrays_copyOf_15 (fun q9 cA H hK hP hD hS => ?_)
    have e8 : cI = cA := cls_one hK rfl
    subst e8
    have hK := hK.sub (tys' := [(cI, .int)]) [0] rfl
    have hP : va_P (dC, dI) classes [(h0, .inl (cI, n0, .inl f)), (q9, .inl (cI, v.toNatClampNeg, .inl (fun _ => 0)))] H := hP
    have hD : va_D A [(h0, .inl (cI, n0, .inl f)), (q9, .inl (cI, v.toNatClampNeg, .inl (fun _ => 0)))] := hD
    refine lv_astore_n (lv' := [(2, .ref q9), (0, .ref h0), (1, .int v)]) hx hb d_Arrays_copyOf_17 rfl hl (by decide) rfl (fun ls hl => ?_)
    refine lv_aload_n hx hb d_Arrays_copyOf_18 rfl (lv_at hl 1 rfl) ?_
    refine lv_iconst (v := 0) hx hb d_Arrays_copyOf_19 (by decide) ?_
    refine lv_aload_n hx hb d_Arrays_copyOf_20 rfl (lv_at hl 0 rfl) ?_
    refine lv_iconst (v := 0) hx hb d_Arrays_copyOf_21 (by decide) ?_
    refine lv_aload_n hx hb d_Arrays_copyOf_22 rfl (lv_at hl 1 rfl) ?_
    refine va_alen (v := nI n0) hx hb hK hP 0 0 rfl rfl rfl d_Arrays_copyOf_23 ?_
    refine lv_iload_n hx hb d_Arrays_copyOf_24 rfl (lv_at hl 2 rfl) ?_
    have hPc := hP.sub (ws' := []) [] rfl
    have hDc := hD.sub (ws' := []) [] (by decide) rfl
    have hKc := hK.sub (tys' := []) [] rfl
    have hFc := va_free (wc := []) hD hS hA [] rfl
    refine va_calli (va_runS (As := [.int (nI n0), .int v]) (rest := [.int 0, .ref q9, .int 0, .ref h0]) ⟨hx, hb, hml, hown, hts⟩ (c_Math_min l dC dI H.size (nI n0) v) (va_cwS 2 hts (tw_GS tw_cons cw_Math_min lk_Arrays_304 st_Math_min ini_Math) rfl rfl rfl (by decide +kernel) ⟨Nat.le_of_ble_eq_true rfl, Nat.le_of_ble_eq_true rfl⟩) ⟨fun a U g mk q => by obtain ⟨q0, q1, qP, qK, qD⟩ := q; exact ⟨q0, q1, qP, va_K.moved (u := U) (U := U.calling g mk a) (Vm.Alike.refl U.vm) qK, qD⟩, fun U hU hW => ⟨rfl, by rw [hU], by rw [hU]; exact hPc, va_K.moved hW.alike hKc, hDc.weaken (fun _ _ _ _ => trivial)⟩⟩ rfl rfl hl.1 rfl (lv_room (Nat.le_of_ble_eq_true rfl)) d_Arrays_copyOf_25 ⟨Nat.le_of_ble_eq_true rfl, show 0 + v.toNatClampNeg + 0 ≤ v.toNatClampNeg by omega⟩) hS (fun q _ h => hFc q h) hFc (fun r9 u9 t9 H1 locs ht hvm e9 hB hz1 hk1 hS => ?_)
    obtain ⟨hP1, hK1, hD1⟩ := hB
    rw [ht] at hP1
    obtain ⟨hP, hD⟩ := va_join (wr := [(h0, .inl (cI, n0, .inl f)), (q9, .inl (cI, v.toNatClampNeg, .inl (fun _ => 0)))]) (w1 := []) hP hD [] [0, 1] rfl rfl (by decide) (by decide) hk1 hFc hP1 hD1
    subst e9
    clear hP1 hD1 hK1 hvm hz1 hk1 hFc hKc hDc hPc
    subst ht
    generalize t9.heap = H at hP hS ⊢
    have hP : va_P (dC, dI) classes [(h0, .inl (cI, n0, .inl f)), (q9, .inl (cI, v.toNatClampNeg, .inl (fun _ => 0)))] H := hP
    have hD : va_D A [(h0, .inl (cI, n0, .inl f)), (q9, .inl (cI, v.toNatClampNeg, .inl (fun _ => 0)))] := hD
    refine va_copyi hx hb (by rw [hml]; exact hl.1.symm) hown (htt _ lk_Arrays_150) (htt _ na_arraycopy) (htt _ st_arraycopy) (htt _ ini_System) hK hP hD hS 0 1 0 0 (ty := .int) (sp := 0) (dp := 0) (n := m_Math_min_r (nI n0) v) rfl rfl rfl rfl rfl (by decide) (by decide) (hvc) (by rw [show (0 : Int32).toNatClampNeg = 0 from rfl, Nat.zero_add]; exact hvd) (by rw [show (0 : Int32).toNatClampNeg = 0 from rfl, Nat.zero_add]; exact hve) (fun _ _ => rfl) (Nat.le_of_ble_eq_true rfl) (Nat.le_of_ble_eq_true rfl) d_Arrays_copyOf_28 (fun H locs hP hD hS => ?_)
    have hP : va_P (dC, dI) classes [(h0, .inl (cI, n0, .inl f)), (q9, .inl (cI, v.toNatClampNeg, .inl (va_cpy f (fun _ => 0) (0 : Int32).toNatClampNeg (0 : Int32).toNatClampNeg (m_Math_min_r (nI n0) v).toNatClampNeg)))] H := hP
    have hD : va_D A [(h0, .inl (cI, n0, .inl f)), (q9, .inl (cI, v.toNatClampNeg, .inl (va_cpy f (fun _ => 0) (0 : Int32).toNatClampNeg (0 : Int32).toNatClampNeg (m_Math_min_r (nI n0) v).toNatClampNeg)))] := hD
    refine lv_aload_n hx hb d_Arrays_copyOf_31 rfl (lv_at hl 0 rfl) ?_
    have hP9 := hP.sub (ws' := [(h0, .inl (cI, n0, .inl f)), (q9, .inl (cI, v.toNatClampNeg, .inl (va_cpy f (fun _ => 0) 0 0 (m_Math_min_r (nI n0) v).toNatClampNeg)))]) [0, 1] rfl
    have hD9 := hD.sub (ws' := [(h0, .inl (cI, n0, .inl f)), (q9, .inl (cI, v.toNatClampNeg, .inl (va_cpy f (fun _ => 0) 0 0 (m_Math_min_r (nI n0) v).toNatClampNeg)))]) [0, 1] (by decide) rfl
    refine W.widen (k := 1) (n := v.toNatClampNeg) (Nat.le_of_ble_eq_true rfl) (by omega) ?_
    exact W.aret (v := .ref q9) hx hb hr (Or.inr ⟨_, rfl⟩) (Or.inr ⟨_, rfl⟩) (fun t9 ht hW => ⟨⟨(), q9, rfl, trivial, by rw [ht]; exact hP9, va_K.moved hW.alike hK, hD9⟩, hS.F ht⟩) hS.2.2 d_Arrays_copyOf_32
  · exact absurd c_1 (hvn)
